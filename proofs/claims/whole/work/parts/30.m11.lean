/-! a keeper is sent -/
theorem lof_b (r : Nat → Nat → Int32) (d z : Int32) (P : Int32 → Prop) (hz : P z) (N : Nat) (hP : ∀ j, j < N → P (nI j)) : ∀ n, n ≤ N → P (lof r d z n)
  | 0, _ => hz
  | n + 1, h => by
    unfold lof
    split
    · exact hP n (by omega)
    · exact lof_b r d z P hz N hP n (by omega)
theorem fLi_b (d : Int32) (s : Nat → Int32) (r : Nat → Nat → Int32) : fLi d s r = -1 ∨ ∃ j, j < (s 52).toNatClampNeg ∧ fLi d s r = nI j := by
  refine lof_b r d _ (fun z => z = -1 ∨ ∃ j, j < (s 52).toNatClampNeg ∧ z = nI j) ?_ (s 52).toNatClampNeg (fun j hj => Or.inr ⟨j, hj, rfl⟩) _ (Nat.le_refl _)
  exact lof_b r 16 _ (fun z => z = -1 ∨ ∃ j, j < (s 52).toNatClampNeg ∧ z = nI j) (Or.inl rfl) (s 52).toNatClampNeg (fun j hj => Or.inr ⟨j, hj, rfl⟩) _ (Nat.le_refl _)
/-- the turns as they stand: what a line holds -/
def tnI (s : Nat → Int32) (r : Nat → Nat → Int32) : Prop := ∀ l, l < (s 52).toNatClampNeg → (0 ≤ (r 55 l).toInt ∧ (r 55 l).toInt ≤ 12) ∧ ∀ i, i < (r 55 l).toNatClampNeg → 0 ≤ (r 56 (12 * l + i)).toInt ∧ (r 56 (12 * l + i)).toInt < (s 26).toInt
def pcI (s : Nat → Int32) (r : Nat → Nat → Int32) : Prop := ∀ k, k < (s 26).toNatClampNeg → ¬ r 31 k = 0
def sdL (c : Int32) (s : Nat → Int32) (r : Nat → Nat → Int32) : Int32 := fLi (r 43 (Int32.toNatClampNeg c) / 5 * 4 + r 42 (Int32.toNatClampNeg c) / 5) s r
def sdK (lw : Int32) (i : Nat) (r : Nat → Nat → Int32) : Int32 := r 56 (12 * Int32.toNatClampNeg lw + i)
def sdG (c lw : Int32) (i : Nat) (s : Nat → Int32) (r : Nat → Nat → Int32) : Int32 := fAg (sdK lw i r) c s r
def askR (c lw : Int32) (s : Nat → Int32) (r : Nat → Nat → Int32) : Nat → Nat → Nat → Int32
  | 0 => r
  | n + 1 => up2 (up2 (askR c lw s r n) 58 n (sdK lw n r)) 59 n (sdG c lw n s r)
theorem askR_n {f : Nat} (h1 : ¬ f = 58) (h2 : ¬ f = 59) (c lw : Int32) (s : Nat → Int32) (r : Nat → Nat → Int32) : ∀ n, askR c lw s r n f = r f
  | 0 => rfl
  | n + 1 => (up2_nn _ _ _ h2).trans ((up2_nn _ _ _ h1).trans (askR_n h1 h2 c lw s r n))
theorem fAg_eq {k c : Int32} {s s' : Nat → Int32} {r r' : Nat → Nat → Int32} (hs : s' 1 = s 1) (h : ∀ f, f = 29 ∨ f = 30 ∨ f = 32 ∨ f = 33 ∨ f = 34 ∨ f = 45 → r' f = r f) : fAg k c s' r' = fAg k c s r := by
  unfold fAg fOn
  rw [hs, h 29 (by simp), h 30 (by simp), h 32 (by simp), h 33 (by simp), h 34 (by simp), h 45 (by simp)]
theorem sd_g {c lw x : Int32} {i : Nat} {s : Nat → Int32} {r rv : Nat → Nat → Int32} (hR : rv = askR c lw s r i) {z : Int32} : fAg (sdK lw i r) c (upd (upd s 0 0) 57 x) (up2 rv 58 i z) = sdG c lw i s r := by
  refine fAg_eq (s := s) (r := r) rfl (fun f hf => ?_)
  rw [up2_nn _ _ _ (by omega), hR]
  exact askR_n (by omega) (by omega) ..
def sdA (k c : Int32) (r : Nat → Nat → Int32) : Nat → Nat → Int32 := up2 (up2 (up2 (up2 (up2 (up2 r 34 (Int32.toNatClampNeg k) 1) 36 (Int32.toNatClampNeg k) (fWa k c (up2 r 34 (Int32.toNatClampNeg k) 1))) 35 (Int32.toNatClampNeg k) (fWa k c (up2 r 34 (Int32.toNatClampNeg k) 1))) 37 (Int32.toNatClampNeg k) c) 41 (Int32.toNatClampNeg c) 1) 50 (Int32.toNatClampNeg c) k
def sdT (c lw : Int32) (s : Nat → Int32) (r : Nat → Nat → Int32) : Nat → Nat → FX
  | 0, i => (-1, upd (upd s 0 0) 57 (nI i), askR c lw s r i)
  | n + 1, i => if sdG c lw i s r ≤ 0 then (sdK lw i r, upd (upd s 0 0) 57 (nI (i + 1)), sdA (sdK lw i r) c (askR c lw s r (i + 1))) else sdT c lw s r n (i + 1)
def sdX (c : Int32) (s : Nat → Int32) (r : Nat → Nat → Int32) : FX := if fIs (s 39) c = 0 then (0, upd s 0 1, r) else if r 41 (Int32.toNatClampNeg c) = 0 then (if sdL c s r = -1 then (-1, upd (upd s 0 0) 57 0, r) else sdT c (sdL c s r) s r (r 55 (Int32.toNatClampNeg (sdL c s r))).toNatClampNeg 0) else (0, upd s 0 2, r)
theorem sd_line {c lw : Int32} {s : Nat → Int32} {r : Nat → Nat → Int32} (hT : tnI s r) (h52 : (s 52).toNatClampNeg ≤ 10) (hw : lw = sdL c s r) (hn : ¬ lw = -1) : vp_in lw 20 ∧ Int32.toNatClampNeg lw < 10 ∧ lw = nI (Int32.toNatClampNeg lw) ∧ Int32.toNatClampNeg lw < (s 52).toNatClampNeg ∧ (0 ≤ (r 55 (Int32.toNatClampNeg lw)).toInt ∧ (r 55 (Int32.toNatClampNeg lw)).toInt ≤ 12) ∧ ∀ i, i < (r 55 (Int32.toNatClampNeg lw)).toNatClampNeg → 0 ≤ (sdK lw i r).toInt ∧ (sdK lw i r).toInt < (s 26).toInt := by
  rcases fLi_b (r 43 (Int32.toNatClampNeg c) / 5 * 4 + r 42 (Int32.toNatClampNeg c) / 5) s r with q | ⟨j, h1, h2⟩
  · exact absurd (hw.trans q) hn
  · have e : lw = nI j := hw.trans h2
    have e2 : Int32.toNatClampNeg lw = j := by rw [e]; exact ix_nI (by omega)
    have q := hT j h1
    unfold sdK
    rw [e2]
    exact ⟨by rw [e]; exact vp_in_i (by omega) (by omega), by omega, e, h1, q.1, q.2⟩
theorem sd_ix {lw x : Int32} {l i : Nat} (h1 : lw = nI l) (h2 : x = nI i) (hl : l < 20) (hi : i ≤ 12) : 12 * lw + x = nI (12 * l + i) := by
  rw [h1, h2, show (12 : Int32) = nI 12 from rfl, pk_mul, nI_add]
theorem sd_in {k n : Int32} (h : 0 ≤ k.toInt ∧ k.toInt < n.toInt) (hn : n.toInt ≤ 12) : vp_in k 12 := vp_in_t h.1 (by omega)
theorem i_as (x : Int32) : x + 1 - 1 = x := by
  apply Int32.toInt_inj.mp
  rw [Int32.toInt_sub, Int32.toInt_add]
  have := t_rng x
  rw [t_1]
  unfold Int.bmod; simp only; omega
set_option maxHeartbeats 4000000 in
set_option maxRecDepth 100000 in
theorem c_X10_send {l : Launch} {D : va_G} {cI cZ cB cO cR cJ : ClassId} {Hb : Heap} {lv : Nat → Prop} {ad : Nat → Nat} {ce0 : Nat → va_E} (hlv : lM lv) (c : Int32) (s : Nat → Int32) (r : Nat → Nat → Int32) (h1 : (s 39).toInt ≤ 60) (hl0 : 0 ≤ (s 52).toInt) (hl1 : (s 52).toInt ≤ 10) (hk1 : (s 26).toInt ≤ 12) (hT : tnI s r) (hP : pcI s r) : mMet l D cI cZ cB cO cR cJ Hb lv ad ce0 yX10_send wsX10_send 2 49 [.ref (ad 0), .int c] s r (some (.int ((sdX c s r).1))) ((sdX c s r).2.1) ((sdX c s r).2.2) := by
  refine Met.ofW (cc := cX10_send) (maxL := 5) (ret := (some .int)) (by decide) rfl ?_
  intro p0 e0 s0 m0 args below meth c0 s₁ B hml hv
  obtain ⟨rfl, hG, hK⟩ := hv
  have hx := B.exec
  have hb := B.bytes
  have hr := B.returns
  have hts := atoms_spec (ws := wsX10_send) B.pre
  have hown : s0.vm.findClass RX10 = some m0.cls := findClass_of_methodNamed B.named
  have hlocks := B.notSynchronized
  have S : mX p0 m0 c0 cX10_send 5 s0 _ wsX10_send D cI cZ cB cO cR cJ lv := ⟨⟨hx, hb, hml, hown, hts⟩, hK, fun w h => List.mem_cons_of_mem _ (List.mem_append_right _ h), hlv⟩
  have hL : gL Hb [] := gL.nil
  have hl := lv_entry ([.ref (ad 0), .int c]) (n := 5) (Nat.le_of_ble_eq_true rfl)
  rw [lg_entry_eq]
  generalize (lg_sl ([.ref (ad 0), .int c]) ++ List.replicate (5 - (lg_sl ([.ref (ad 0), .int c])).length) Slot.unset).toArray = ls at hl ⊢
  have hl : lv_has ls 5 [(0, .ref (ad 0)), (1, .int c)] := hl
  refine lv_aload_n hx hb dX10_send_0 rfl (lv_at hl 0 rfl) ?_
  refine lv_aload_n hx hb dX10_send_1 rfl (lv_at hl 0 rfl) ?_
  refine lv_iload_n hx hb dX10_send_2 rfl (lv_at hl 1 rfl) ?_
  refine m_callV (n := 1) (As := [.int c]) (rest := [.ref (ad 0)]) (st1 := .int (fIs (s 39) c) :: [.ref (ad 0)]) S hG hL (c_X10_isCase hlv c s r ) gX10_send_X10_isCase rfl (by decide +kernel) ⟨Nat.le_of_ble_eq_true rfl, Nat.le_of_ble_eq_true rfl⟩ rfl hl.1 rfl (Nat.le_of_ble_eq_true rfl) dX10_send_3 ⟨Nat.zero_le _, Nat.zero_le _⟩ (rfl) (fun H locs hG hL => ?_)
  refine lv_if_ne (tgt := 13) hx hb dX10_send_6 (by decide) (fun c6 => ?_) (fun c6 => ?_)
  ·
    refine lv_aload_n hx hb dX10_send_13 rfl (lv_at hl 0 rfl) ?_
    refine m_ga S hG 41 rfl (hts (.fieldLink RX10 112 "SwarmLineModel" "caseState" "[I") (by decide +kernel)) dX10_send_14 ?_
    refine lv_iload_n hx hb dX10_send_17 rfl (lv_at hl 1 rfl) ?_
    refine m_ld (v := r 41 (Int32.toNatClampNeg c)) S hG 41 rfl (show vp_in c 60 from fIs_in c6 h1) dX10_send_18 (rfl) ?_
    refine lv_if_eq (tgt := 26) hx hb dX10_send_19 (by decide) (fun c19 => ?_) (fun c19 => ?_)
    ·
      refine lv_iconst (v := 0) hx hb dX10_send_26 (by decide) ?_
      refine m_pi S hG hL 0 rfl (hts (.fieldLink RX10 180 "SwarmLineModel" "thrown" "I") (by decide +kernel)) dX10_send_27 (fun H locs hG hL => ?_)
      refine lv_aload_n hx hb dX10_send_30 rfl (lv_at hl 0 rfl) ?_
      refine m_gi (v := 0) S hG 0 rfl (hts (.fieldLink RX10 180 "SwarmLineModel" "thrown" "I") (by decide +kernel)) dX10_send_31 rfl ?_
      refine lv_if_le (tgt := 39) hx hb dX10_send_34 (by decide) (fun _ => ?_) (fun c => absurd c (by decide))
      refine lv_aload_n hx hb dX10_send_39 rfl (lv_at hl 0 rfl) ?_
      refine lv_iconst (v := 0) hx hb dX10_send_40 (by decide) ?_
      refine m_pi S hG hL 57 rfl (hts (.fieldLink RX10 318 "SwarmLineModel" "asked" "I") (by decide +kernel)) dX10_send_41 (fun H locs hG hL => ?_)
      refine lv_aload_n hx hb dX10_send_44 rfl (lv_at hl 0 rfl) ?_
      refine lv_aload_n hx hb dX10_send_45 rfl (lv_at hl 0 rfl) ?_
      refine m_ga S hG 43 rfl (hts (.fieldLink RX10 118 "SwarmLineModel" "caseY" "[I") (by decide +kernel)) dX10_send_46 ?_
      refine lv_iload_n hx hb dX10_send_49 rfl (lv_at hl 1 rfl) ?_
      refine m_ld (v := r 43 (Int32.toNatClampNeg c)) S hG 43 rfl (show vp_in c 60 from fIs_in c6 h1) dX10_send_50 (rfl) ?_
      refine lv_iconst (v := 5) hx hb dX10_send_51 (by decide) ?_
      refine lv_idiv hx hb dX10_send_52 (by decide) ?_
      refine lv_iconst (v := 4) hx hb dX10_send_53 (by decide) ?_
      refine lv_imul hx hb dX10_send_54 ?_
      refine lv_aload_n hx hb dX10_send_55 rfl (lv_at hl 0 rfl) ?_
      refine m_ga S hG 42 rfl (hts (.fieldLink RX10 115 "SwarmLineModel" "caseX" "[I") (by decide +kernel)) dX10_send_56 ?_
      refine lv_iload_n hx hb dX10_send_59 rfl (lv_at hl 1 rfl) ?_
      refine m_ld (v := r 42 (Int32.toNatClampNeg c)) S hG 42 rfl (show vp_in c 60 from fIs_in c6 h1) dX10_send_60 (rfl) ?_
      refine lv_iconst (v := 5) hx hb dX10_send_61 (by decide) ?_
      refine lv_idiv hx hb dX10_send_62 (by decide) ?_
      refine lv_iadd hx hb dX10_send_63 ?_
      refine m_callV (n := 1) (As := [.int ((((r 43 (Int32.toNatClampNeg c)) / 5) * 4) + ((r 42 (Int32.toNatClampNeg c)) / 5))]) (rest := []) (st1 := .int (fLi ((((r 43 (Int32.toNatClampNeg c)) / 5) * 4) + ((r 42 (Int32.toNatClampNeg c)) / 5)) (upd (upd s 0 0) 57 0) r) :: []) S hG hL (c_X10_lineOf hlv ((((r 43 (Int32.toNatClampNeg c)) / 5) * 4) + ((r 42 (Int32.toNatClampNeg c)) / 5)) (upd (upd s 0 0) 57 0) r (hl0) (hl1)) gX10_send_X10_lineOf rfl (by decide +kernel) ⟨Nat.le_of_ble_eq_true rfl, Nat.le_of_ble_eq_true rfl⟩ rfl hl.1 rfl (Nat.le_of_ble_eq_true rfl) dX10_send_64 ⟨Nat.zero_le _, Nat.zero_le _⟩ (rfl) (fun H locs hG hL => ?_)
      refine lv_istore_n (lv' := [(2, .int (fLi ((((r 43 (Int32.toNatClampNeg c)) / 5) * 4) + ((r 42 (Int32.toNatClampNeg c)) / 5)) (upd (upd s 0 0) 57 0) r)), (0, .ref (ad 0)), (1, .int c)]) hx hb dX10_send_67 rfl hl (by decide) rfl (fun ls hl => ?_)
      refine lv_iconst (v := 0) hx hb dX10_send_68 (by decide) ?_
      refine lv_istore_n (lv' := [(3, .int 0), (2, .int (fLi ((((r 43 (Int32.toNatClampNeg c)) / 5) * 4) + ((r 42 (Int32.toNatClampNeg c)) / 5)) (upd (upd s 0 0) 57 0) r)), (0, .ref (ad 0)), (1, .int c)]) hx hb dX10_send_69 rfl hl (by decide) rfl (fun ls hl => ?_)
      have LP : ∀ (n : Nat) (lw : Int32) (i : Nat) (x : Int32) (rv : Nat → Nat → Int32) (hw : lw = sdL c s r) (h00 : lw = -1 → i = 0) (ex : x = nI i) (hn : 13 ≤ i + n ∧ i ≤ 12 ∧ (¬ lw = -1 → i ≤ (r 55 (Int32.toNatClampNeg lw)).toNatClampNeg)) (hR : rv = askR c lw s r i) (hF : ¬ lw = -1 → sdT c lw s r ((r 55 (Int32.toNatClampNeg lw)).toNatClampNeg - i) i = sdT c lw s r (r 55 (Int32.toNatClampNeg lw)).toNatClampNeg 0), ∀ (H : Heap) (locs : List Loc), gW D Hb lv ad (mJ ce0 ad cI cZ (upd (upd s 0 0) 57 x) rv) H → gL Hb locs → ∀ (ls : Array Slot), lv_has ls 5 [(0, .ref (ad 0)), (1, .int c), (2, .int lw), (3, .int x)] → W p0 l e0 (headSpec wsX10_send { frames := 2, cells := 0, slots := 0, locals := 49 }).room s0 m0 ([.ref (ad 0), .int c] : List Value).toArray below meth c0 H locs 0 0 (MQ below (gQ D Hb lv ad (some (.int ((sdX c s r).1))) (mJ ce0 ad cI cZ ((sdX c s r).2.1) ((sdX c s r).2.2))) ([.ref (ad 0), .int c] : List Value).toArray s0 0 0 (gA Hb)) (F0 m0 70 ls []) := by
        intro n
        induction n with
        | zero => intro lw i x rv hw h00 ex hn hR hF; exact absurd hn (by omega)
        | succ n ih =>
          intro lw i x rv hw h00 ex hn hR hF H locs hG hL ls hl
          have hii : Int32.toNatClampNeg x = i := by rw [ex]; exact ix_nI (by omega)
          refine lv_iload_n hx hb dX10_send_70 rfl (lv_at hl 2 rfl) ?_
          refine lv_iconst (v := (-1)) hx hb dX10_send_71 (by decide) ?_
          refine lv_icmp_eq (tgt := 220) hx hb dX10_send_72 (by decide) (fun c72 => ?_) (fun c72 => ?_)
          ·
            refine lv_iconst (v := (-1)) hx hb dX10_send_220 (by decide) ?_
            exact m_iret S hr hlocks hG hL dX10_send_221 (by simp only [sdX, eq_false c6, eq_true c19, ↓reduceIte]; rw [← hw]; simp only [eq_true c72, ↓reduceIte]) (by simp only [sdX, eq_false c6, eq_true c19, ↓reduceIte]; rw [← hw]; simp only [eq_true c72, ↓reduceIte]; rw [show x = 0 by rw [ex, h00 c72]; rfl]) (by simp only [sdX, eq_false c6, eq_true c19, ↓reduceIte]; rw [← hw]; simp only [eq_true c72, ↓reduceIte]; rw [hR, h00 c72]; rfl)
          ·
            have hq := sd_line hT (t_ixl hl0 hl1) hw c72; have hix : Int32.toNatClampNeg (12 * lw + x) = 12 * Int32.toNatClampNeg lw + i := by { rw [sd_ix hq.2.2.1 ex (by omega) (by omega)]; exact ix_nI (by omega) }; have hi1 : Int32.toNatClampNeg (x + 1 - 1) = i := by { rw [i_as]; exact hii }; have hi9 := hn.2.2 c72; have hb12 : (r 55 (Int32.toNatClampNeg lw)).toNatClampNeg ≤ 12 := t_ixl hq.2.2.2.2.1.1 hq.2.2.2.2.1.2
            refine lv_iload_n hx hb dX10_send_75 rfl (lv_at hl 3 rfl) ?_
            refine lv_aload_n hx hb dX10_send_76 rfl (lv_at hl 0 rfl) ?_
            refine m_ga S hG 55 rfl (hts (.fieldLink RX10 149 "SwarmLineModel" "lineMany" "[I") (by decide +kernel)) dX10_send_77 ?_
            refine lv_iload_n hx hb dX10_send_80 rfl (lv_at hl 2 rfl) ?_
            refine m_ld (v := r 55 (Int32.toNatClampNeg lw)) S hG 55 rfl (show vp_in lw 20 from hq.1) dX10_send_81 (by rw [hR]; exact congrFun (askR_n (by decide) (by decide) ..) _) ?_
            refine lv_icmp_ge (tgt := 220) hx hb dX10_send_82 (by decide) (fun c82 => ?_) (fun c82 => ?_)
            ·
              have hEq := cl_ge hq.2.2.2.2.1.1 hi9 (ex ▸ c82)
              refine lv_iconst (v := (-1)) hx hb dX10_send_220 (by decide) ?_
              exact m_iret S hr hlocks hG hL dX10_send_221 (by simp only [sdX, eq_false c6, eq_true c19, ↓reduceIte]; rw [← hw]; simp only [eq_false c72, ↓reduceIte]; rw [← hF c72, hEq, Nat.sub_self]; simp only [sdT]) (by simp only [sdX, eq_false c6, eq_true c19, ↓reduceIte]; rw [← hw]; simp only [eq_false c72, ↓reduceIte]; rw [← hF c72, hEq, Nat.sub_self]; simp only [sdT]; rw [ex, hEq]) (by simp only [sdX, eq_false c6, eq_true c19, ↓reduceIte]; rw [← hw]; simp only [eq_false c72, ↓reduceIte]; rw [← hF c72, hEq, Nat.sub_self]; simp only [sdT]; rw [hR, hEq])
            ·
              have hlt := cl_lt hq.2.2.2.2.1.1 hi9 (ex ▸ c82); have hkq := hq.2.2.2.2.2 i hlt; have hkb := sd_in hkq hk1; have hpc : ¬ (up2 (up2 (up2 rv 58 i (sdK lw i r)) 59 i (sdG c lw i s r)) 34 (Int32.toNatClampNeg (sdK lw i r)) 1) 31 (Int32.toNatClampNeg (sdK lw i r)) = 0 := by { show ¬ rv 31 _ = 0; rw [hR, askR_n (by decide) (by decide)]; exact hP _ (by have e1 := t_ix hkq.1; have e2 := t_ix (show 0 ≤ (s 26).toInt by omega); omega) }
              refine lv_aload_n hx hb dX10_send_85 rfl (lv_at hl 0 rfl) ?_
              refine m_ga S hG 56 rfl (hts (.fieldLink RX10 152 "SwarmLineModel" "lineKeeper" "[I") (by decide +kernel)) dX10_send_86 ?_
              refine lv_bipush (v := 12) hx hb dX10_send_89 (by decide) ?_
              refine lv_iload_n hx hb dX10_send_91 rfl (lv_at hl 2 rfl) ?_
              refine lv_imul hx hb dX10_send_92 ?_
              refine lv_iload_n hx hb dX10_send_93 rfl (lv_at hl 3 rfl) ?_
              refine lv_iadd hx hb dX10_send_94 ?_
              refine m_ldj (j := 12 * Int32.toNatClampNeg lw + i) (v := sdK lw i r) S hG 56 rfl hix (show vp_in ((12 * lw) + x) 240 from by rw [sd_ix hq.2.2.1 ex (by omega) (by omega)]; exact vp_in_i (by omega) (by omega)) dX10_send_95 (by rw [hR]; exact congrFun (askR_n (by decide) (by decide) ..) _) ?_
              refine lv_istore (lv' := [(4, .int (sdK lw i r)), (0, .ref (ad 0)), (1, .int c), (2, .int lw), (3, .int x)]) hx hb dX10_send_96 hl (by decide) rfl (fun ls hl => ?_)
              refine lv_aload_n hx hb dX10_send_98 rfl (lv_at hl 1 rfl) ?_
              refine m_ga S hG 58 rfl (hts (.fieldLink RX10 155 "SwarmLineModel" "askedKeeper" "[I") (by decide +kernel)) dX10_send_99 ?_
              refine lv_aload_n hx hb dX10_send_102 rfl (lv_at hl 1 rfl) ?_
              refine m_gi (v := x) S hG 57 rfl (hts (.fieldLink RX10 318 "SwarmLineModel" "asked" "I") (by decide +kernel)) dX10_send_103 rfl ?_
              refine lv_iload hx hb dX10_send_106 (lv_at hl 0 rfl) ?_
              refine m_stj (j := i) S hG hL 58 rfl hii (show vp_in x 12 from by rw [ex]; exact vp_in_i (by omega) (by omega)) dX10_send_108 (fun H locs hG hL => ?_)
              refine lv_aload_n hx hb dX10_send_109 rfl (lv_at hl 1 rfl) ?_
              refine m_ga S hG 59 rfl (hts (.fieldLink RX10 158 "SwarmLineModel" "askedAgainst" "[I") (by decide +kernel)) dX10_send_110 ?_
              refine lv_aload_n hx hb dX10_send_113 rfl (lv_at hl 1 rfl) ?_
              refine m_gi (v := x) S hG 57 rfl (hts (.fieldLink RX10 318 "SwarmLineModel" "asked" "I") (by decide +kernel)) dX10_send_114 rfl ?_
              refine lv_aload_n hx hb dX10_send_117 rfl (lv_at hl 1 rfl) ?_
              refine lv_iload hx hb dX10_send_118 (lv_at hl 0 rfl) ?_
              refine lv_iload_n hx hb dX10_send_120 rfl (lv_at hl 2 rfl) ?_
              refine m_callV (n := 2) (As := [.int (sdK lw i r), .int c]) (rest := [.int x, .ref (ad 60)]) (st1 := .int (sdG c lw i s r) :: [.int x, .ref (ad 60)]) S hG hL (c_X10_against hlv (sdK lw i r) c (upd (upd s 0 0) 57 x) (up2 rv 58 i (sdK lw i r)) (hkb) (fIs_in c6 h1)) gX10_send_X10_against rfl (by decide +kernel) ⟨Nat.le_of_ble_eq_true rfl, Nat.le_of_ble_eq_true rfl⟩ rfl hl.1 rfl (Nat.le_of_ble_eq_true rfl) dX10_send_121 ⟨Nat.zero_le _, Nat.zero_le _⟩ (by rw [sd_g hR]; rfl) (fun H locs hG hL => ?_)
              refine m_stj (j := i) S hG hL 59 rfl hii (show vp_in x 12 from by rw [ex]; exact vp_in_i (by omega) (by omega)) dX10_send_124 (fun H locs hG hL => ?_)
              refine lv_aload_n hx hb dX10_send_125 rfl (lv_at hl 1 rfl) ?_
              refine lv_dup hx hb dX10_send_126 rfl ?_
              refine m_gi (v := x) S hG 57 rfl (hts (.fieldLink RX10 318 "SwarmLineModel" "asked" "I") (by decide +kernel)) dX10_send_127 rfl ?_
              refine lv_iconst (v := 1) hx hb dX10_send_130 (by decide) ?_
              refine lv_iadd hx hb dX10_send_131 ?_
              refine m_pj (sm2 := (upd (upd s 0 0) 57 (x + 1))) S hG hL 57 rfl (hts (.fieldLink RX10 318 "SwarmLineModel" "asked" "I") (by decide +kernel)) dX10_send_132 (upd_tw ..) (fun H locs hG hL => ?_)
              refine lv_aload_n hx hb dX10_send_135 rfl (lv_at hl 1 rfl) ?_
              refine m_ga S hG 59 rfl (hts (.fieldLink RX10 158 "SwarmLineModel" "askedAgainst" "[I") (by decide +kernel)) dX10_send_136 ?_
              refine lv_aload_n hx hb dX10_send_139 rfl (lv_at hl 1 rfl) ?_
              refine m_gi (v := x + 1) S hG 57 rfl (hts (.fieldLink RX10 318 "SwarmLineModel" "asked" "I") (by decide +kernel)) dX10_send_140 rfl ?_
              refine lv_iconst (v := 1) hx hb dX10_send_143 (by decide) ?_
              refine lv_isub hx hb dX10_send_144 ?_
              refine m_ldj (j := i) (v := sdG c lw i s r) S hG 59 rfl hi1 (show vp_in ((x + 1) - 1) 12 from by rw [i_as, ex]; exact vp_in_i (by omega) (by omega)) dX10_send_145 (up2_ss ..) ?_
              refine lv_if_le (tgt := 152) hx hb dX10_send_146 (by decide) (fun c146 => ?_) (fun c146 => ?_)
              ·
                refine lv_aload_n hx hb dX10_send_152 rfl (lv_at hl 1 rfl) ?_
                refine m_ga S hG 34 rfl (hts (.fieldLink RX10 97 "SwarmLineModel" "keeperState" "[I") (by decide +kernel)) dX10_send_153 ?_
                refine lv_iload hx hb dX10_send_156 (lv_at hl 0 rfl) ?_
                refine lv_iconst (v := 1) hx hb dX10_send_158 (by decide) ?_
                refine m_st S hG hL 34 rfl (show vp_in (sdK lw i r) 12 from hkb) dX10_send_159 (fun H locs hG hL => ?_)
                refine lv_aload_n hx hb dX10_send_160 rfl (lv_at hl 1 rfl) ?_
                refine m_ga S hG 36 rfl (hts (.fieldLink RX10 103 "SwarmLineModel" "keeperWay" "[I") (by decide +kernel)) dX10_send_161 ?_
                refine lv_iload hx hb dX10_send_164 (lv_at hl 0 rfl) ?_
                refine lv_aload_n hx hb dX10_send_166 rfl (lv_at hl 1 rfl) ?_
                refine lv_iload hx hb dX10_send_167 (lv_at hl 0 rfl) ?_
                refine lv_iload_n hx hb dX10_send_169 rfl (lv_at hl 2 rfl) ?_
                refine m_callV (n := 2) (As := [.int (sdK lw i r), .int c]) (rest := [.int (sdK lw i r), .ref (ad 37)]) (st1 := .int (fWa (sdK lw i r) c (up2 (up2 (up2 rv 58 i (sdK lw i r)) 59 i (sdG c lw i s r)) 34 (Int32.toNatClampNeg (sdK lw i r)) 1)) :: [.int (sdK lw i r), .ref (ad 37)]) S hG hL (c_X10_wayHours hlv (sdK lw i r) c (upd (upd s 0 0) 57 (x + 1)) (up2 (up2 (up2 rv 58 i (sdK lw i r)) 59 i (sdG c lw i s r)) 34 (Int32.toNatClampNeg (sdK lw i r)) 1) (hkb) (fIs_in c6 h1) (hpc)) gX10_send_X10_wayHours rfl (by decide +kernel) ⟨Nat.le_of_ble_eq_true rfl, Nat.le_of_ble_eq_true rfl⟩ rfl hl.1 rfl (Nat.le_of_ble_eq_true rfl) dX10_send_170 ⟨Nat.zero_le _, Nat.zero_le _⟩ (rfl) (fun H locs hG hL => ?_)
                refine m_st S hG hL 36 rfl (show vp_in (sdK lw i r) 12 from hkb) dX10_send_173 (fun H locs hG hL => ?_)
                refine lv_aload_n hx hb dX10_send_174 rfl (lv_at hl 1 rfl) ?_
                refine m_ga S hG 35 rfl (hts (.fieldLink RX10 100 "SwarmLineModel" "keeperGo" "[I") (by decide +kernel)) dX10_send_175 ?_
                refine lv_iload hx hb dX10_send_178 (lv_at hl 0 rfl) ?_
                refine lv_aload_n hx hb dX10_send_180 rfl (lv_at hl 1 rfl) ?_
                refine m_ga S hG 36 rfl (hts (.fieldLink RX10 103 "SwarmLineModel" "keeperWay" "[I") (by decide +kernel)) dX10_send_181 ?_
                refine lv_iload hx hb dX10_send_184 (lv_at hl 0 rfl) ?_
                refine m_ld (v := fWa (sdK lw i r) c (up2 (up2 (up2 rv 58 i (sdK lw i r)) 59 i (sdG c lw i s r)) 34 (Int32.toNatClampNeg (sdK lw i r)) 1)) S hG 36 rfl (show vp_in (sdK lw i r) 12 from hkb) dX10_send_186 (up2_ss ..) ?_
                refine m_st S hG hL 35 rfl (show vp_in (sdK lw i r) 12 from hkb) dX10_send_187 (fun H locs hG hL => ?_)
                refine lv_aload_n hx hb dX10_send_188 rfl (lv_at hl 1 rfl) ?_
                refine m_ga S hG 37 rfl (hts (.fieldLink RX10 106 "SwarmLineModel" "keeperCase" "[I") (by decide +kernel)) dX10_send_189 ?_
                refine lv_iload hx hb dX10_send_192 (lv_at hl 0 rfl) ?_
                refine lv_iload_n hx hb dX10_send_194 rfl (lv_at hl 2 rfl) ?_
                refine m_st S hG hL 37 rfl (show vp_in (sdK lw i r) 12 from hkb) dX10_send_195 (fun H locs hG hL => ?_)
                refine lv_aload_n hx hb dX10_send_196 rfl (lv_at hl 1 rfl) ?_
                refine m_ga S hG 41 rfl (hts (.fieldLink RX10 112 "SwarmLineModel" "caseState" "[I") (by decide +kernel)) dX10_send_197 ?_
                refine lv_iload_n hx hb dX10_send_200 rfl (lv_at hl 2 rfl) ?_
                refine lv_iconst (v := 1) hx hb dX10_send_201 (by decide) ?_
                refine m_st S hG hL 41 rfl (show vp_in c 60 from fIs_in c6 h1) dX10_send_202 (fun H locs hG hL => ?_)
                refine lv_aload_n hx hb dX10_send_203 rfl (lv_at hl 1 rfl) ?_
                refine m_ga S hG 50 rfl (hts (.fieldLink RX10 140 "SwarmLineModel" "caseKeeper" "[I") (by decide +kernel)) dX10_send_204 ?_
                refine lv_iload_n hx hb dX10_send_207 rfl (lv_at hl 2 rfl) ?_
                refine lv_iload hx hb dX10_send_208 (lv_at hl 0 rfl) ?_
                refine m_st S hG hL 50 rfl (show vp_in c 60 from fIs_in c6 h1) dX10_send_210 (fun H locs hG hL => ?_)
                refine lv_iload hx hb dX10_send_211 (lv_at hl 0 rfl) ?_
                exact m_iret S hr hlocks hG hL dX10_send_213 (by simp only [sdX, eq_false c6, eq_true c19, ↓reduceIte]; rw [← hw]; simp only [eq_false c72, ↓reduceIte]; rw [← hF c72, show (r 55 (Int32.toNatClampNeg lw)).toNatClampNeg - i = ((r 55 (Int32.toNatClampNeg lw)).toNatClampNeg - (i + 1)) + 1 by omega]; simp only [sdT, eq_true c146, ↓reduceIte]) (by simp only [sdX, eq_false c6, eq_true c19, ↓reduceIte]; rw [← hw]; simp only [eq_false c72, ↓reduceIte]; rw [← hF c72, show (r 55 (Int32.toNatClampNeg lw)).toNatClampNeg - i = ((r 55 (Int32.toNatClampNeg lw)).toNatClampNeg - (i + 1)) + 1 by omega]; simp only [sdT, eq_true c146, ↓reduceIte]; rw [ex, nI_1]) (by simp only [sdX, eq_false c6, eq_true c19, ↓reduceIte]; rw [← hw]; simp only [eq_false c72, ↓reduceIte]; rw [← hF c72, show (r 55 (Int32.toNatClampNeg lw)).toNatClampNeg - i = ((r 55 (Int32.toNatClampNeg lw)).toNatClampNeg - (i + 1)) + 1 by omega]; simp only [sdT, eq_true c146, ↓reduceIte]; rw [hR]; rfl)
              ·
                refine lv_goto (tgt := 214) hx hb dX10_send_149 (by decide) ?_
                refine lv_iinc (v := x + 1) (lv' := [(3, .int (x + 1)), (4, .int (sdK lw i r)), (0, .ref (ad 0)), (1, .int c), (2, .int lw)]) hx hb dX10_send_214 hl (k := 4) rfl (by rfl) (by decide) rfl (fun ls hl => ?_)
                refine lv_goto (tgt := 70) hx hb dX10_send_217 (by decide) ?_
                exact ih  lw (i + 1) (x + 1) (up2 (up2 rv 58 i (sdK lw i r)) 59 i (sdG c lw i s r)) (hw) (fun h => absurd h c72) (by rw [ex]; exact nI_1 i) (⟨by omega, by omega, fun _ => hlt⟩) (by rw [hR]; rfl) (fun h9 => by rw [← hF h9, show (r 55 (Int32.toNatClampNeg lw)).toNatClampNeg - i = ((r 55 (Int32.toNatClampNeg lw)).toNatClampNeg - (i + 1)) + 1 by omega]; simp only [sdT, eq_false c146, ↓reduceIte]) _ _ hG hL _ (lv_sub hl [2, 3, 4, 0] rfl)
      exact LP 13 (fLi ((((r 43 (Int32.toNatClampNeg c)) / 5) * 4) + ((r 42 (Int32.toNatClampNeg c)) / 5)) (upd (upd s 0 0) 57 0) r) 0 0 r (rfl) (fun _ => rfl) (rfl) (⟨by omega, by omega, fun _ => Nat.zero_le _⟩) (rfl) (fun _ => rfl) _ _ hG hL _ (lv_sub hl [2, 3, 1, 0] rfl)
    ·
      refine lv_iconst (v := 2) hx hb dX10_send_22 (by decide) ?_
      refine lv_goto (tgt := 27) hx hb dX10_send_23 (by decide) ?_
      refine m_pi S hG hL 0 rfl (hts (.fieldLink RX10 180 "SwarmLineModel" "thrown" "I") (by decide +kernel)) dX10_send_27 (fun H locs hG hL => ?_)
      refine lv_aload_n hx hb dX10_send_30 rfl (lv_at hl 0 rfl) ?_
      refine m_gi (v := 2) S hG 0 rfl (hts (.fieldLink RX10 180 "SwarmLineModel" "thrown" "I") (by decide +kernel)) dX10_send_31 rfl ?_
      refine lv_if_le (tgt := 39) hx hb dX10_send_34 (by decide) (fun c => absurd c (by decide)) (fun _ => ?_)
      refine lv_iconst (v := 0) hx hb dX10_send_37 (by decide) ?_
      exact m_iret S hr hlocks hG hL dX10_send_38 (by simp only [sdX, eq_false c6, eq_false c19, ↓reduceIte]) (by simp only [sdX, eq_false c6, eq_false c19, ↓reduceIte]) (by simp only [sdX, eq_false c6, eq_false c19, ↓reduceIte])
  ·
    refine lv_iconst (v := 1) hx hb dX10_send_9 (by decide) ?_
    refine lv_goto (tgt := 27) hx hb dX10_send_10 (by decide) ?_
    refine m_pi S hG hL 0 rfl (hts (.fieldLink RX10 180 "SwarmLineModel" "thrown" "I") (by decide +kernel)) dX10_send_27 (fun H locs hG hL => ?_)
    refine lv_aload_n hx hb dX10_send_30 rfl (lv_at hl 0 rfl) ?_
    refine m_gi (v := 1) S hG 0 rfl (hts (.fieldLink RX10 180 "SwarmLineModel" "thrown" "I") (by decide +kernel)) dX10_send_31 rfl ?_
    refine lv_if_le (tgt := 39) hx hb dX10_send_34 (by decide) (fun c => absurd c (by decide)) (fun _ => ?_)
    refine lv_iconst (v := 0) hx hb dX10_send_37 (by decide) ?_
    exact m_iret S hr hlocks hG hL dX10_send_38 (by simp only [sdX, eq_true c6, ↓reduceIte]) (by simp only [sdX, eq_true c6, ↓reduceIte]) (by simp only [sdX, eq_true c6, ↓reduceIte])
