/-! numbers for loops -/
theorem t_0 : (0 : Int32).toInt = 0 := rfl
theorem t_1 : (1 : Int32).toInt = 1 := rfl
theorem t_30 : (30 : Int32).toInt = 30 := rfl
theorem t_div24 {h : Int32} (h0 : 0 ≤ h.toInt) : (h / 24).toInt = h.toInt / 24 := by
  have hr := t_rng h
  rw [Int32.toInt_div, show (24 : Int32).toInt = 24 from rfl, Int.tdiv_eq_ediv_of_nonneg h0]
  unfold Int.bmod; simp only; omega
theorem t_ixn {x : Int32} (h : 0 ≤ x.toInt) : nI x.toNatClampNeg = x := by
  apply Int32.toInt_inj.mp
  have := t_rng x
  have e := t_ix h
  rw [nI_toInt (by omega)]; omega
theorem t_ixl {x : Int32} {k : Nat} (h0 : 0 ≤ x.toInt) (h : x.toInt ≤ k) : x.toNatClampNeg ≤ k := by
  have e := t_ix h0
  omega
theorem cl_lt {x : Int32} {i : Nat} (h0 : 0 ≤ x.toInt) (hi : i ≤ x.toNatClampNeg) (h : ¬ x ≤ nI i) : i < x.toNatClampNeg := by
  rcases Nat.lt_or_ge i x.toNatClampNeg with q | q
  · exact q
  · exact absurd (by have e : i = x.toNatClampNeg := by omega
                     rw [e, t_ixn h0]; exact Int32.le_refl _) h
theorem cl_ge {x : Int32} {i : Nat} (h0 : 0 ≤ x.toInt) (hi : i ≤ x.toNatClampNeg) (h : x ≤ nI i) : i = x.toNatClampNeg := by
  have hr := t_rng x
  have e := t_ix h0
  rw [t_le, nI_toInt (by omega)] at h
  omega
theorem vp_in_i {i n : Nat} (h : i < n) (hn : n ≤ 5000) : vp_in (nI i) n := vp_in_nI h (by omega)
theorem ix_nI {i : Nat} (h : i ≤ 5000) : Int32.toNatClampNeg (nI i) = i := nI_clamp (by omega)
/-! how long there still is -/
theorem fTa_b (w : Int32) : 1 ≤ (fTa w).toInt ∧ (fTa w).toInt ≤ 3 := by
  unfold fTa
  split
  · split <;> decide
  · decide
def cap30 (d : Int32) : Int32 := if d ≤ 30 then d else 30
def wAt (lst : Int32) (s : Nat → Int32) (r : Nat → Nat → Int32) (h : Int32) : Int32 := if s 1 / 24 < h / 24 then (if lst = 0 then r 4 (Int32.toNatClampNeg (cap30 (h / 24))) else r 5 (Int32.toNatClampNeg (cap30 (h / 24)))) else r 2 (Int32.toNatClampNeg (cap30 (h / 24)))
def goF (lst : Int32) (s : Nat → Int32) (r : Nat → Nat → Int32) : Nat → Int32 → Int32 → Int32
  | 0, _, h => h
  | n + 1, p, h => if p ≤ 0 then h else goF lst s r n (p - fTa (wAt lst s r (h + 1))) (h + 1)
def fGo (h lst : Int32) (s : Nat → Int32) (r : Nat → Nat → Int32) : Int32 := goF lst s r 61 60 h
theorem go_p {p : Int32} (w : Int32) (h1 : ¬ p ≤ 0) (h2 : p.toInt ≤ 60) : (p - fTa w).toInt < p.toInt ∧ -3 < (p - fTa w).toInt := by
  have q := fTa_b w
  rw [t_le, t_0] at h1
  rw [t_sub (by omega) (by omega)]
  omega
theorem go_h {h p : Int32} (h1 : ¬ p ≤ 0) (h0 : 0 ≤ h.toInt) (h2 : h.toInt + p.toInt ≤ 803) : (h + 1).toInt = h.toInt + 1 := by
  rw [t_le, t_0] at h1
  rw [t_add (by rw [t_1]; omega) (by rw [t_1]; omega), t_1]
theorem go_d {h p : Int32} (h1 : ¬ p ≤ 0) (h0 : 0 ≤ h.toInt) (h2 : h.toInt + p.toInt ≤ 803) (c : (h + 1) / 24 ≤ 30) : vp_in ((h + 1) / 24) 31 := by
  have e := go_h h1 h0 h2
  rw [t_le, t_30] at c
  exact vp_in_t (by rw [t_div24 (by omega)]; omega) (by omega)
def vLe (c lst : Int32) (s : Nat → Int32) (r : Nat → Nat → Int32) : Int32 := if fIs (s 39) c = 0 then 0 else if r 46 (Int32.toNatClampNeg c) = -1 then -1 else fGo (r 46 (Int32.toNatClampNeg c)) lst s r
def kLe (c : Int32) (s : Nat → Int32) : Int32 := if fIs (s 39) c = 0 then 1 else 0
def fCo (k c : Int32) (s : Nat → Int32) (r : Nat → Nat → Int32) : Int32 := if fAg k c s r = 0 then (if r 46 (Int32.toNatClampNeg c) = -1 then 1 else if fGo (r 46 (Int32.toNatClampNeg c)) 1 s r ≤ s 1 + fWa k c r then 0 else 1) else 0
theorem fGo_0 (lst k : Int32) (s : Nat → Int32) (r : Nat → Nat → Int32) : ∀ n p q, goF lst (upd s 0 k) r n p q = goF lst s r n p q := by
  intro n
  induction n with
  | zero => intro p q; rfl
  | succ n ih => intro p q; simp only [goF, ih]; rfl
/-! the first place -/
def fF (p : Nat → Bool) : Nat → Nat → Int32
  | 0, _ => -1
  | n + 1, i => if p i = true then nI i else fF p n (i + 1)
set_option maxHeartbeats 4000000 in
set_option maxRecDepth 100000 in
theorem c_X10_goes {l : Launch} {D : va_G} {cI cZ cB cO cR cJ : ClassId} {Hb : Heap} {lv : Nat → Prop} {ad : Nat → Nat} {ce0 : Nat → va_E} (hlv : lM lv) (h_ : Int32) (lst : Int32) (s : Nat → Int32) (r : Nat → Nat → Int32) (ha : 0 ≤ h_.toInt ∧ h_.toInt ≤ 743) : mMet l D cI cZ cB cO cR cJ Hb lv ad ce0 yX10_goes wsX10_goes 1 20 [.ref (ad 0), .int h_, .int lst] s r (some (.int (fGo h_ lst s r))) s r := by
  refine Met.ofW (cc := cX10_goes) (maxL := 6) (ret := (some .int)) (by decide) rfl ?_
  intro p0 e0 s0 m0 args below meth c0 s₁ B hml hv
  obtain ⟨rfl, hG, hK⟩ := hv
  have hx := B.exec
  have hb := B.bytes
  have hr := B.returns
  have hts := atoms_spec (ws := wsX10_goes) B.pre
  have hown : s0.vm.findClass RX10 = some m0.cls := findClass_of_methodNamed B.named
  have hlocks := B.notSynchronized
  have S : mX p0 m0 c0 cX10_goes 6 s0 _ wsX10_goes D cI cZ cB cO cR cJ lv := ⟨⟨hx, hb, hml, hown, hts⟩, hK, fun w h => List.mem_cons_of_mem _ (List.mem_append_right _ h), hlv⟩
  have hL : gL Hb [] := gL.nil
  have hl := lv_entry ([.ref (ad 0), .int h_, .int lst]) (n := 6) (Nat.le_of_ble_eq_true rfl)
  rw [lg_entry_eq]
  generalize (lg_sl ([.ref (ad 0), .int h_, .int lst]) ++ List.replicate (6 - (lg_sl ([.ref (ad 0), .int h_, .int lst])).length) Slot.unset).toArray = ls at hl ⊢
  have hl : lv_has ls 6 [(0, .ref (ad 0)), (1, .int h_), (2, .int lst)] := hl
  refine lv_bipush (v := 60) hx hb dX10_goes_0 (by decide) ?_
  refine lv_istore_n (lv' := [(3, .int 60), (0, .ref (ad 0)), (1, .int h_), (2, .int lst)]) hx hb dX10_goes_2 rfl hl (by decide) rfl (fun ls hl => ?_)
  refine lv_iload_n hx hb dX10_goes_3 rfl (lv_at hl 2 rfl) ?_
  refine lv_istore (lv' := [(4, .int h_), (3, .int 60), (0, .ref (ad 0)), (1, .int h_), (2, .int lst)]) hx hb dX10_goes_4 hl (by decide) rfl (fun ls hl => ?_)
  have LP : ∀ (n : Nat) (p : Int32) (h : Int32) (hF : goF lst s r n p h = fGo h_ lst s r) (h1 : 1 ≤ n) (hp : p.toInt < n ∧ p.toInt ≤ 60) (hh : 0 ≤ h.toInt ∧ h.toInt + p.toInt ≤ 803), ∀ (H : Heap) (locs : List Loc), gW D Hb lv ad (mJ ce0 ad cI cZ s r) H → gL Hb locs → ∀ (ls : Array Slot), lv_has ls 6 [(0, .ref (ad 0)), (1, .int h_), (2, .int lst), (3, .int p), (4, .int h)] → W p0 l e0 (headSpec wsX10_goes { frames := 1, cells := 0, slots := 0, locals := 20 }).room s0 m0 ([.ref (ad 0), .int h_, .int lst] : List Value).toArray below meth c0 H locs 0 0 (MQ below (gQ D Hb lv ad (some (.int (fGo h_ lst s r))) (mJ ce0 ad cI cZ s r)) ([.ref (ad 0), .int h_, .int lst] : List Value).toArray s0 0 0 (gA Hb)) (F0 m0 6 ls []) := by
    intro n
    induction n with
    | zero => intro p h hF h1 hp hh; exact absurd h1 (by omega)
    | succ n ih =>
      intro p h hF h1 hp hh H locs hG hL ls hl
      refine lv_iload_n hx hb dX10_goes_6 rfl (lv_at hl 3 rfl) ?_
      refine lv_if_le (tgt := 90) hx hb dX10_goes_7 (by decide) (fun c7 => ?_) (fun c7 => ?_)
      ·
        refine lv_iload hx hb dX10_goes_90 (lv_at hl 4 rfl) ?_
        exact m_iret S hr hlocks hG hL dX10_goes_92 (by rw [← hF]; simp only [goF, eq_true c7, ↓reduceIte]) (by rfl) (by rfl)
      ·
        refine lv_iinc (v := h + 1) (lv' := [(4, .int (h + 1)), (0, .ref (ad 0)), (1, .int h_), (2, .int lst), (3, .int p)]) hx hb dX10_goes_10 hl (k := 4) rfl (by rfl) (by decide) rfl (fun ls hl => ?_)
        refine lv_iload hx hb dX10_goes_13 (lv_at hl 0 rfl) ?_
        refine lv_bipush (v := 24) hx hb dX10_goes_15 (by decide) ?_
        refine lv_idiv hx hb dX10_goes_17 (by decide) ?_
        refine lv_bipush (v := 30) hx hb dX10_goes_18 (by decide) ?_
        refine lv_icmp_le (tgt := 28) hx hb dX10_goes_20 (by decide) (fun c20 => ?_) (fun c20 => ?_)
        ·
          refine lv_iload hx hb dX10_goes_28 (lv_at hl 0 rfl) ?_
          refine lv_bipush (v := 24) hx hb dX10_goes_30 (by decide) ?_
          refine lv_idiv hx hb dX10_goes_32 (by decide) ?_
          refine lv_istore (lv' := [(5, .int ((h + 1) / 24)), (4, .int (h + 1)), (0, .ref (ad 0)), (1, .int h_), (2, .int lst), (3, .int p)]) hx hb dX10_goes_33 hl (by decide) rfl (fun ls hl => ?_)
          refine lv_iload_n hx hb dX10_goes_35 rfl (lv_at hl 5 rfl) ?_
          refine lv_iload hx hb dX10_goes_36 (lv_at hl 1 rfl) ?_
          refine lv_bipush (v := 24) hx hb dX10_goes_38 (by decide) ?_
          refine lv_idiv hx hb dX10_goes_40 (by decide) ?_
          refine lv_aload_n hx hb dX10_goes_41 rfl (lv_at hl 2 rfl) ?_
          refine m_gi (v := s 1) S hG 1 rfl (hts (.fieldLink RX10 206 "SwarmLineModel" "now" "I") (by decide +kernel)) dX10_goes_42 rfl ?_
          refine lv_bipush (v := 24) hx hb dX10_goes_45 (by decide) ?_
          refine lv_idiv hx hb dX10_goes_47 (by decide) ?_
          refine lv_icmp_gt (tgt := 61) hx hb dX10_goes_48 (by decide) (fun c48 => ?_) (fun c48 => ?_)
          ·
            refine lv_iload_n hx hb dX10_goes_61 rfl (lv_at hl 4 rfl) ?_
            refine lv_if_eq (tgt := 75) hx hb dX10_goes_62 (by decide) (fun c62 => ?_) (fun c62 => ?_)
            ·
              refine lv_aload_n hx hb dX10_goes_75 rfl (lv_at hl 2 rfl) ?_
              refine m_ga S hG 4 rfl (hts (.fieldLink RX10 16 "SwarmLineModel" "foreLeast" "[I") (by decide +kernel)) dX10_goes_76 ?_
              refine lv_iload hx hb dX10_goes_79 (lv_at hl 0 rfl) ?_
              refine m_ld (v := r 4 (Int32.toNatClampNeg ((h + 1) / 24))) S hG 4 rfl (show vp_in ((h + 1) / 24) 31 from go_d c7 hh.1 hh.2 c20) dX10_goes_81 (rfl) ?_
              refine m_callP (n := 1) (As := [.int (r 4 (Int32.toNatClampNeg ((h + 1) / 24)))]) (rest := [.int p]) (st1 := .int (fTa (r 4 (Int32.toNatClampNeg ((h + 1) / 24)))) :: [.int p]) S.1 (c_X10_taken (r 4 (Int32.toNatClampNeg ((h + 1) / 24)))) gX10_goes_X10_taken rfl (by decide +kernel) ⟨Nat.le_of_ble_eq_true rfl, Nat.le_of_ble_eq_true rfl⟩ rfl hl.1 rfl (Nat.le_of_ble_eq_true rfl) dX10_goes_82 ⟨Nat.zero_le _, Nat.zero_le _⟩ rfl ?_
              refine lv_isub hx hb dX10_goes_85 ?_
              refine lv_istore_n (lv' := [(3, .int (p - (fTa (r 4 (Int32.toNatClampNeg ((h + 1) / 24)))))), (5, .int ((h + 1) / 24)), (4, .int (h + 1)), (0, .ref (ad 0)), (1, .int h_), (2, .int lst)]) hx hb dX10_goes_86 rfl hl (by decide) rfl (fun ls hl => ?_)
              refine lv_goto (tgt := 6) hx hb dX10_goes_87 (by decide) ?_
              exact ih  (p - (fTa (r 4 (Int32.toNatClampNeg ((h + 1) / 24))))) (h + 1) (by rw [← hF]; simp only [goF, wAt, cap30, eq_false c7, eq_true c20, eq_true c48, eq_true c62, ↓reduceIte]) (by have c := c7; rw [t_le, t_0] at c; omega) (by have q : (p - (fTa (r 4 (Int32.toNatClampNeg ((h + 1) / 24))))).toInt < p.toInt ∧ _ := go_p _ c7 hp.2; omega) (by have q : (p - (fTa (r 4 (Int32.toNatClampNeg ((h + 1) / 24))))).toInt < p.toInt ∧ _ := go_p _ c7 hp.2; have q2 := go_h c7 hh.1 hh.2; omega) _ _ hG hL _ (lv_sub hl [3, 4, 5, 0, 2] rfl)
            ·
              refine lv_aload_n hx hb dX10_goes_65 rfl (lv_at hl 2 rfl) ?_
              refine m_ga S hG 5 rfl (hts (.fieldLink RX10 19 "SwarmLineModel" "foreMost" "[I") (by decide +kernel)) dX10_goes_66 ?_
              refine lv_iload hx hb dX10_goes_69 (lv_at hl 0 rfl) ?_
              refine m_ld (v := r 5 (Int32.toNatClampNeg ((h + 1) / 24))) S hG 5 rfl (show vp_in ((h + 1) / 24) 31 from go_d c7 hh.1 hh.2 c20) dX10_goes_71 (rfl) ?_
              refine lv_goto (tgt := 82) hx hb dX10_goes_72 (by decide) ?_
              refine m_callP (n := 1) (As := [.int (r 5 (Int32.toNatClampNeg ((h + 1) / 24)))]) (rest := [.int p]) (st1 := .int (fTa (r 5 (Int32.toNatClampNeg ((h + 1) / 24)))) :: [.int p]) S.1 (c_X10_taken (r 5 (Int32.toNatClampNeg ((h + 1) / 24)))) gX10_goes_X10_taken rfl (by decide +kernel) ⟨Nat.le_of_ble_eq_true rfl, Nat.le_of_ble_eq_true rfl⟩ rfl hl.1 rfl (Nat.le_of_ble_eq_true rfl) dX10_goes_82 ⟨Nat.zero_le _, Nat.zero_le _⟩ rfl ?_
              refine lv_isub hx hb dX10_goes_85 ?_
              refine lv_istore_n (lv' := [(3, .int (p - (fTa (r 5 (Int32.toNatClampNeg ((h + 1) / 24)))))), (5, .int ((h + 1) / 24)), (4, .int (h + 1)), (0, .ref (ad 0)), (1, .int h_), (2, .int lst)]) hx hb dX10_goes_86 rfl hl (by decide) rfl (fun ls hl => ?_)
              refine lv_goto (tgt := 6) hx hb dX10_goes_87 (by decide) ?_
              exact ih  (p - (fTa (r 5 (Int32.toNatClampNeg ((h + 1) / 24))))) (h + 1) (by rw [← hF]; simp only [goF, wAt, cap30, eq_false c7, eq_true c20, eq_true c48, eq_false c62, ↓reduceIte]) (by have c := c7; rw [t_le, t_0] at c; omega) (by have q : (p - (fTa (r 5 (Int32.toNatClampNeg ((h + 1) / 24))))).toInt < p.toInt ∧ _ := go_p _ c7 hp.2; omega) (by have q : (p - (fTa (r 5 (Int32.toNatClampNeg ((h + 1) / 24))))).toInt < p.toInt ∧ _ := go_p _ c7 hp.2; have q2 := go_h c7 hh.1 hh.2; omega) _ _ hG hL _ (lv_sub hl [3, 4, 5, 0, 2] rfl)
          ·
            refine lv_aload_n hx hb dX10_goes_51 rfl (lv_at hl 2 rfl) ?_
            refine m_ga S hG 2 rfl (hts (.fieldLink RX10 7 "SwarmLineModel" "warmth" "[I") (by decide +kernel)) dX10_goes_52 ?_
            refine lv_iload hx hb dX10_goes_55 (lv_at hl 0 rfl) ?_
            refine m_ld (v := r 2 (Int32.toNatClampNeg ((h + 1) / 24))) S hG 2 rfl (show vp_in ((h + 1) / 24) 31 from go_d c7 hh.1 hh.2 c20) dX10_goes_57 (rfl) ?_
            refine lv_goto (tgt := 82) hx hb dX10_goes_58 (by decide) ?_
            refine m_callP (n := 1) (As := [.int (r 2 (Int32.toNatClampNeg ((h + 1) / 24)))]) (rest := [.int p]) (st1 := .int (fTa (r 2 (Int32.toNatClampNeg ((h + 1) / 24)))) :: [.int p]) S.1 (c_X10_taken (r 2 (Int32.toNatClampNeg ((h + 1) / 24)))) gX10_goes_X10_taken rfl (by decide +kernel) ⟨Nat.le_of_ble_eq_true rfl, Nat.le_of_ble_eq_true rfl⟩ rfl hl.1 rfl (Nat.le_of_ble_eq_true rfl) dX10_goes_82 ⟨Nat.zero_le _, Nat.zero_le _⟩ rfl ?_
            refine lv_isub hx hb dX10_goes_85 ?_
            refine lv_istore_n (lv' := [(3, .int (p - (fTa (r 2 (Int32.toNatClampNeg ((h + 1) / 24)))))), (5, .int ((h + 1) / 24)), (4, .int (h + 1)), (0, .ref (ad 0)), (1, .int h_), (2, .int lst)]) hx hb dX10_goes_86 rfl hl (by decide) rfl (fun ls hl => ?_)
            refine lv_goto (tgt := 6) hx hb dX10_goes_87 (by decide) ?_
            exact ih  (p - (fTa (r 2 (Int32.toNatClampNeg ((h + 1) / 24))))) (h + 1) (by rw [← hF]; simp only [goF, wAt, cap30, eq_false c7, eq_true c20, eq_false c48, ↓reduceIte]) (by have c := c7; rw [t_le, t_0] at c; omega) (by have q : (p - (fTa (r 2 (Int32.toNatClampNeg ((h + 1) / 24))))).toInt < p.toInt ∧ _ := go_p _ c7 hp.2; omega) (by have q : (p - (fTa (r 2 (Int32.toNatClampNeg ((h + 1) / 24))))).toInt < p.toInt ∧ _ := go_p _ c7 hp.2; have q2 := go_h c7 hh.1 hh.2; omega) _ _ hG hL _ (lv_sub hl [3, 4, 5, 0, 2] rfl)
        ·
          refine lv_bipush (v := 30) hx hb dX10_goes_23 (by decide) ?_
          refine lv_goto (tgt := 33) hx hb dX10_goes_25 (by decide) ?_
          refine lv_istore (lv' := [(5, .int 30), (4, .int (h + 1)), (0, .ref (ad 0)), (1, .int h_), (2, .int lst), (3, .int p)]) hx hb dX10_goes_33 hl (by decide) rfl (fun ls hl => ?_)
          refine lv_iload_n hx hb dX10_goes_35 rfl (lv_at hl 5 rfl) ?_
          refine lv_iload hx hb dX10_goes_36 (lv_at hl 1 rfl) ?_
          refine lv_bipush (v := 24) hx hb dX10_goes_38 (by decide) ?_
          refine lv_idiv hx hb dX10_goes_40 (by decide) ?_
          refine lv_aload_n hx hb dX10_goes_41 rfl (lv_at hl 2 rfl) ?_
          refine m_gi (v := s 1) S hG 1 rfl (hts (.fieldLink RX10 206 "SwarmLineModel" "now" "I") (by decide +kernel)) dX10_goes_42 rfl ?_
          refine lv_bipush (v := 24) hx hb dX10_goes_45 (by decide) ?_
          refine lv_idiv hx hb dX10_goes_47 (by decide) ?_
          refine lv_icmp_gt (tgt := 61) hx hb dX10_goes_48 (by decide) (fun c48 => ?_) (fun c48 => ?_)
          ·
            refine lv_iload_n hx hb dX10_goes_61 rfl (lv_at hl 4 rfl) ?_
            refine lv_if_eq (tgt := 75) hx hb dX10_goes_62 (by decide) (fun c62 => ?_) (fun c62 => ?_)
            ·
              refine lv_aload_n hx hb dX10_goes_75 rfl (lv_at hl 2 rfl) ?_
              refine m_ga S hG 4 rfl (hts (.fieldLink RX10 16 "SwarmLineModel" "foreLeast" "[I") (by decide +kernel)) dX10_goes_76 ?_
              refine lv_iload hx hb dX10_goes_79 (lv_at hl 0 rfl) ?_
              refine m_ld (v := r 4 (Int32.toNatClampNeg 30)) S hG 4 rfl (show vp_in 30 31 from vp_in_t (by decide) (by decide)) dX10_goes_81 (rfl) ?_
              refine m_callP (n := 1) (As := [.int (r 4 (Int32.toNatClampNeg 30))]) (rest := [.int p]) (st1 := .int (fTa (r 4 (Int32.toNatClampNeg 30))) :: [.int p]) S.1 (c_X10_taken (r 4 (Int32.toNatClampNeg 30))) gX10_goes_X10_taken rfl (by decide +kernel) ⟨Nat.le_of_ble_eq_true rfl, Nat.le_of_ble_eq_true rfl⟩ rfl hl.1 rfl (Nat.le_of_ble_eq_true rfl) dX10_goes_82 ⟨Nat.zero_le _, Nat.zero_le _⟩ rfl ?_
              refine lv_isub hx hb dX10_goes_85 ?_
              refine lv_istore_n (lv' := [(3, .int (p - (fTa (r 4 (Int32.toNatClampNeg 30))))), (5, .int 30), (4, .int (h + 1)), (0, .ref (ad 0)), (1, .int h_), (2, .int lst)]) hx hb dX10_goes_86 rfl hl (by decide) rfl (fun ls hl => ?_)
              refine lv_goto (tgt := 6) hx hb dX10_goes_87 (by decide) ?_
              exact ih  (p - (fTa (r 4 (Int32.toNatClampNeg 30)))) (h + 1) (by rw [← hF]; simp only [goF, wAt, cap30, eq_false c7, eq_false c20, eq_true c48, eq_true c62, ↓reduceIte]) (by have c := c7; rw [t_le, t_0] at c; omega) (by have q : (p - (fTa (r 4 (Int32.toNatClampNeg 30)))).toInt < p.toInt ∧ _ := go_p _ c7 hp.2; omega) (by have q : (p - (fTa (r 4 (Int32.toNatClampNeg 30)))).toInt < p.toInt ∧ _ := go_p _ c7 hp.2; have q2 := go_h c7 hh.1 hh.2; omega) _ _ hG hL _ (lv_sub hl [3, 4, 5, 0, 2] rfl)
            ·
              refine lv_aload_n hx hb dX10_goes_65 rfl (lv_at hl 2 rfl) ?_
              refine m_ga S hG 5 rfl (hts (.fieldLink RX10 19 "SwarmLineModel" "foreMost" "[I") (by decide +kernel)) dX10_goes_66 ?_
              refine lv_iload hx hb dX10_goes_69 (lv_at hl 0 rfl) ?_
              refine m_ld (v := r 5 (Int32.toNatClampNeg 30)) S hG 5 rfl (show vp_in 30 31 from vp_in_t (by decide) (by decide)) dX10_goes_71 (rfl) ?_
              refine lv_goto (tgt := 82) hx hb dX10_goes_72 (by decide) ?_
              refine m_callP (n := 1) (As := [.int (r 5 (Int32.toNatClampNeg 30))]) (rest := [.int p]) (st1 := .int (fTa (r 5 (Int32.toNatClampNeg 30))) :: [.int p]) S.1 (c_X10_taken (r 5 (Int32.toNatClampNeg 30))) gX10_goes_X10_taken rfl (by decide +kernel) ⟨Nat.le_of_ble_eq_true rfl, Nat.le_of_ble_eq_true rfl⟩ rfl hl.1 rfl (Nat.le_of_ble_eq_true rfl) dX10_goes_82 ⟨Nat.zero_le _, Nat.zero_le _⟩ rfl ?_
              refine lv_isub hx hb dX10_goes_85 ?_
              refine lv_istore_n (lv' := [(3, .int (p - (fTa (r 5 (Int32.toNatClampNeg 30))))), (5, .int 30), (4, .int (h + 1)), (0, .ref (ad 0)), (1, .int h_), (2, .int lst)]) hx hb dX10_goes_86 rfl hl (by decide) rfl (fun ls hl => ?_)
              refine lv_goto (tgt := 6) hx hb dX10_goes_87 (by decide) ?_
              exact ih  (p - (fTa (r 5 (Int32.toNatClampNeg 30)))) (h + 1) (by rw [← hF]; simp only [goF, wAt, cap30, eq_false c7, eq_false c20, eq_true c48, eq_false c62, ↓reduceIte]) (by have c := c7; rw [t_le, t_0] at c; omega) (by have q : (p - (fTa (r 5 (Int32.toNatClampNeg 30)))).toInt < p.toInt ∧ _ := go_p _ c7 hp.2; omega) (by have q : (p - (fTa (r 5 (Int32.toNatClampNeg 30)))).toInt < p.toInt ∧ _ := go_p _ c7 hp.2; have q2 := go_h c7 hh.1 hh.2; omega) _ _ hG hL _ (lv_sub hl [3, 4, 5, 0, 2] rfl)
          ·
            refine lv_aload_n hx hb dX10_goes_51 rfl (lv_at hl 2 rfl) ?_
            refine m_ga S hG 2 rfl (hts (.fieldLink RX10 7 "SwarmLineModel" "warmth" "[I") (by decide +kernel)) dX10_goes_52 ?_
            refine lv_iload hx hb dX10_goes_55 (lv_at hl 0 rfl) ?_
            refine m_ld (v := r 2 (Int32.toNatClampNeg 30)) S hG 2 rfl (show vp_in 30 31 from vp_in_t (by decide) (by decide)) dX10_goes_57 (rfl) ?_
            refine lv_goto (tgt := 82) hx hb dX10_goes_58 (by decide) ?_
            refine m_callP (n := 1) (As := [.int (r 2 (Int32.toNatClampNeg 30))]) (rest := [.int p]) (st1 := .int (fTa (r 2 (Int32.toNatClampNeg 30))) :: [.int p]) S.1 (c_X10_taken (r 2 (Int32.toNatClampNeg 30))) gX10_goes_X10_taken rfl (by decide +kernel) ⟨Nat.le_of_ble_eq_true rfl, Nat.le_of_ble_eq_true rfl⟩ rfl hl.1 rfl (Nat.le_of_ble_eq_true rfl) dX10_goes_82 ⟨Nat.zero_le _, Nat.zero_le _⟩ rfl ?_
            refine lv_isub hx hb dX10_goes_85 ?_
            refine lv_istore_n (lv' := [(3, .int (p - (fTa (r 2 (Int32.toNatClampNeg 30))))), (5, .int 30), (4, .int (h + 1)), (0, .ref (ad 0)), (1, .int h_), (2, .int lst)]) hx hb dX10_goes_86 rfl hl (by decide) rfl (fun ls hl => ?_)
            refine lv_goto (tgt := 6) hx hb dX10_goes_87 (by decide) ?_
            exact ih  (p - (fTa (r 2 (Int32.toNatClampNeg 30)))) (h + 1) (by rw [← hF]; simp only [goF, wAt, cap30, eq_false c7, eq_false c20, eq_false c48, ↓reduceIte]) (by have c := c7; rw [t_le, t_0] at c; omega) (by have q : (p - (fTa (r 2 (Int32.toNatClampNeg 30)))).toInt < p.toInt ∧ _ := go_p _ c7 hp.2; omega) (by have q : (p - (fTa (r 2 (Int32.toNatClampNeg 30)))).toInt < p.toInt ∧ _ := go_p _ c7 hp.2; have q2 := go_h c7 hh.1 hh.2; omega) _ _ hG hL _ (lv_sub hl [3, 4, 5, 0, 2] rfl)
  exact LP 61 60 h_ (by rfl) (by decide) (by decide) (by rw [show (60 : Int32).toInt = 60 from rfl]; omega) _ _ hG hL _ (lv_sub hl [2, 3, 4, 1, 0] rfl)
set_option maxHeartbeats 4000000 in
set_option maxRecDepth 100000 in
theorem c_X10_left {l : Launch} {D : va_G} {cI cZ cB cO cR cJ : ClassId} {Hb : Heap} {lv : Nat → Prop} {ad : Nat → Nat} {ce0 : Nat → va_E} (hlv : lM lv) (c : Int32) (lst : Int32) (s : Nat → Int32) (r : Nat → Nat → Int32) (h1 : (s 39).toInt ≤ 60) (hs : ¬ fIs (s 39) c = 0 → ¬ r 46 (Int32.toNatClampNeg c) = -1 → 0 ≤ (r 46 (Int32.toNatClampNeg c)).toInt ∧ (r 46 (Int32.toNatClampNeg c)).toInt ≤ 743) : mMet l D cI cZ cB cO cR cJ Hb lv ad ce0 yX10_left wsX10_left 2 45 [.ref (ad 0), .int c, .int lst] s r (some (.int (vLe c lst s r))) (upd s 0 (kLe c s)) r := by
  refine Met.ofW (cc := cX10_left) (maxL := 3) (ret := (some .int)) (by decide) rfl ?_
  intro p0 e0 s0 m0 args below meth c0 s₁ B hml hv
  obtain ⟨rfl, hG, hK⟩ := hv
  have hx := B.exec
  have hb := B.bytes
  have hr := B.returns
  have hts := atoms_spec (ws := wsX10_left) B.pre
  have hown : s0.vm.findClass RX10 = some m0.cls := findClass_of_methodNamed B.named
  have hlocks := B.notSynchronized
  have S : mX p0 m0 c0 cX10_left 3 s0 _ wsX10_left D cI cZ cB cO cR cJ lv := ⟨⟨hx, hb, hml, hown, hts⟩, hK, fun w h => List.mem_cons_of_mem _ (List.mem_append_right _ h), hlv⟩
  have hL : gL Hb [] := gL.nil
  have hl := lv_entry ([.ref (ad 0), .int c, .int lst]) (n := 3) (Nat.le_of_ble_eq_true rfl)
  rw [lg_entry_eq]
  generalize (lg_sl ([.ref (ad 0), .int c, .int lst]) ++ List.replicate (3 - (lg_sl ([.ref (ad 0), .int c, .int lst])).length) Slot.unset).toArray = ls at hl ⊢
  have hl : lv_has ls 3 [(0, .ref (ad 0)), (1, .int c), (2, .int lst)] := hl
  refine lv_aload_n hx hb dX10_left_0 rfl (lv_at hl 0 rfl) ?_
  refine lv_aload_n hx hb dX10_left_1 rfl (lv_at hl 0 rfl) ?_
  refine lv_iload_n hx hb dX10_left_2 rfl (lv_at hl 1 rfl) ?_
  refine m_callV (n := 1) (As := [.int c]) (rest := [.ref (ad 0)]) (st1 := .int (fIs (s 39) c) :: [.ref (ad 0)]) S hG hL (c_X10_isCase hlv c s r ) gX10_left_X10_isCase rfl (by decide +kernel) ⟨Nat.le_of_ble_eq_true rfl, Nat.le_of_ble_eq_true rfl⟩ rfl hl.1 rfl (Nat.le_of_ble_eq_true rfl) dX10_left_3 ⟨Nat.zero_le _, Nat.zero_le _⟩ (rfl) (fun H locs hG hL => ?_)
  refine lv_if_ne (tgt := 13) hx hb dX10_left_6 (by decide) (fun c6 => ?_) (fun c6 => ?_)
  ·
    refine lv_iconst (v := 0) hx hb dX10_left_13 (by decide) ?_
    refine m_pi S hG hL 0 rfl (hts (.fieldLink RX10 180 "SwarmLineModel" "thrown" "I") (by decide +kernel)) dX10_left_14 (fun H locs hG hL => ?_)
    refine lv_aload_n hx hb dX10_left_17 rfl (lv_at hl 0 rfl) ?_
    refine m_gi (v := 0) S hG 0 rfl (hts (.fieldLink RX10 180 "SwarmLineModel" "thrown" "I") (by decide +kernel)) dX10_left_18 rfl ?_
    refine lv_if_le (tgt := 26) hx hb dX10_left_21 (by decide) (fun _ => ?_) (fun c => absurd c (by decide))
    refine lv_aload_n hx hb dX10_left_26 rfl (lv_at hl 0 rfl) ?_
    refine m_ga S hG 46 rfl (hts (.fieldLink RX10 128 "SwarmLineModel" "caseSince" "[I") (by decide +kernel)) dX10_left_27 ?_
    refine lv_iload_n hx hb dX10_left_30 rfl (lv_at hl 1 rfl) ?_
    refine m_ld (v := r 46 (Int32.toNatClampNeg c)) S hG 46 rfl (show vp_in c 60 from fIs_in c6 h1) dX10_left_31 (rfl) ?_
    refine lv_iconst (v := (-1)) hx hb dX10_left_32 (by decide) ?_
    refine lv_icmp_ne (tgt := 40) hx hb dX10_left_33 (by decide) (fun c33 => ?_) (fun c33 => ?_)
    ·
      refine lv_aload_n hx hb dX10_left_40 rfl (lv_at hl 0 rfl) ?_
      refine lv_aload_n hx hb dX10_left_41 rfl (lv_at hl 0 rfl) ?_
      refine m_ga S hG 46 rfl (hts (.fieldLink RX10 128 "SwarmLineModel" "caseSince" "[I") (by decide +kernel)) dX10_left_42 ?_
      refine lv_iload_n hx hb dX10_left_45 rfl (lv_at hl 1 rfl) ?_
      refine m_ld (v := r 46 (Int32.toNatClampNeg c)) S hG 46 rfl (show vp_in c 60 from fIs_in c6 h1) dX10_left_46 (rfl) ?_
      refine lv_iload_n hx hb dX10_left_47 rfl (lv_at hl 2 rfl) ?_
      refine m_callV (n := 2) (As := [.int (r 46 (Int32.toNatClampNeg c)), .int lst]) (rest := []) (st1 := .int (fGo (r 46 (Int32.toNatClampNeg c)) lst (upd s 0 0) r) :: []) S hG hL (c_X10_goes hlv (r 46 (Int32.toNatClampNeg c)) lst (upd s 0 0) r (hs c6 c33)) gX10_left_X10_goes rfl (by decide +kernel) ⟨Nat.le_of_ble_eq_true rfl, Nat.le_of_ble_eq_true rfl⟩ rfl hl.1 rfl (Nat.le_of_ble_eq_true rfl) dX10_left_48 ⟨Nat.zero_le _, Nat.zero_le _⟩ (rfl) (fun H locs hG hL => ?_)
      exact m_iret S hr hlocks hG hL dX10_left_51 (by simp only [vLe, kLe, fGo, fGo_0, eq_false c6, eq_false c33, il1, il2, il3, ↓reduceIte]) (by simp only [vLe, kLe, fGo, fGo_0, eq_false c6, eq_false c33, il1, il2, il3, ↓reduceIte]) (by rfl)
    ·
      refine lv_iconst (v := (-1)) hx hb dX10_left_36 (by decide) ?_
      refine lv_goto (tgt := 51) hx hb dX10_left_37 (by decide) ?_
      exact m_iret S hr hlocks hG hL dX10_left_51 (by simp only [vLe, kLe, fGo, fGo_0, eq_false c6, eq_true c33, il1, il2, il3, ↓reduceIte]) (by simp only [vLe, kLe, fGo, fGo_0, eq_false c6, eq_true c33, il1, il2, il3, ↓reduceIte]) (by rfl)
  ·
    refine lv_iconst (v := 1) hx hb dX10_left_9 (by decide) ?_
    refine lv_goto (tgt := 14) hx hb dX10_left_10 (by decide) ?_
    refine m_pi S hG hL 0 rfl (hts (.fieldLink RX10 180 "SwarmLineModel" "thrown" "I") (by decide +kernel)) dX10_left_14 (fun H locs hG hL => ?_)
    refine lv_aload_n hx hb dX10_left_17 rfl (lv_at hl 0 rfl) ?_
    refine m_gi (v := 1) S hG 0 rfl (hts (.fieldLink RX10 180 "SwarmLineModel" "thrown" "I") (by decide +kernel)) dX10_left_18 rfl ?_
    refine lv_if_le (tgt := 26) hx hb dX10_left_21 (by decide) (fun c => absurd c (by decide)) (fun _ => ?_)
    refine lv_iconst (v := 0) hx hb dX10_left_24 (by decide) ?_
    exact m_iret S hr hlocks hG hL dX10_left_25 (by simp only [vLe, kLe, fGo, fGo_0, eq_true c6, il1, il2, il3, ↓reduceIte]) (by simp only [vLe, kLe, fGo, fGo_0, eq_true c6, il1, il2, il3, ↓reduceIte]) (by rfl)
set_option maxHeartbeats 4000000 in
set_option maxRecDepth 100000 in
theorem c_X10_could {l : Launch} {D : va_G} {cI cZ cB cO cR cJ : ClassId} {Hb : Heap} {lv : Nat → Prop} {ad : Nat → Nat} {ce0 : Nat → va_E} (hlv : lM lv) (k : Int32) (c : Int32) (s : Nat → Int32) (r : Nat → Nat → Int32) (hk : vp_in k 12) (hc : vp_in c 60) (hp : ¬ r 31 (Int32.toNatClampNeg k) = 0) (hs : ¬ r 46 (Int32.toNatClampNeg c) = -1 → 0 ≤ (r 46 (Int32.toNatClampNeg c)).toInt ∧ (r 46 (Int32.toNatClampNeg c)).toInt ≤ 743) : mMet l D cI cZ cB cO cR cJ Hb lv ad ce0 yX10_could wsX10_could 2 49 [.ref (ad 0), .int k, .int c] s r (some (.int (fCo k c s r))) s r := by
  refine Met.ofW (cc := cX10_could) (maxL := 3) (ret := (some .boolean)) (by decide) rfl ?_
  intro p0 e0 s0 m0 args below meth c0 s₁ B hml hv
  obtain ⟨rfl, hG, hK⟩ := hv
  have hx := B.exec
  have hb := B.bytes
  have hr := B.returns
  have hts := atoms_spec (ws := wsX10_could) B.pre
  have hown : s0.vm.findClass RX10 = some m0.cls := findClass_of_methodNamed B.named
  have hlocks := B.notSynchronized
  have S : mX p0 m0 c0 cX10_could 3 s0 _ wsX10_could D cI cZ cB cO cR cJ lv := ⟨⟨hx, hb, hml, hown, hts⟩, hK, fun w h => List.mem_cons_of_mem _ (List.mem_append_right _ h), hlv⟩
  have hL : gL Hb [] := gL.nil
  have hl := lv_entry ([.ref (ad 0), .int k, .int c]) (n := 3) (Nat.le_of_ble_eq_true rfl)
  rw [lg_entry_eq]
  generalize (lg_sl ([.ref (ad 0), .int k, .int c]) ++ List.replicate (3 - (lg_sl ([.ref (ad 0), .int k, .int c])).length) Slot.unset).toArray = ls at hl ⊢
  have hl : lv_has ls 3 [(0, .ref (ad 0)), (1, .int k), (2, .int c)] := hl
  refine lv_aload_n hx hb dX10_could_0 rfl (lv_at hl 0 rfl) ?_
  refine lv_iload_n hx hb dX10_could_1 rfl (lv_at hl 1 rfl) ?_
  refine lv_iload_n hx hb dX10_could_2 rfl (lv_at hl 2 rfl) ?_
  refine m_callV (n := 2) (As := [.int k, .int c]) (rest := []) (st1 := .int (fAg k c s r) :: []) S hG hL (c_X10_against hlv k c s r (by assumption) (by assumption)) gX10_could_X10_against rfl (by decide +kernel) ⟨Nat.le_of_ble_eq_true rfl, Nat.le_of_ble_eq_true rfl⟩ rfl hl.1 rfl (Nat.le_of_ble_eq_true rfl) dX10_could_3 ⟨Nat.zero_le _, Nat.zero_le _⟩ (rfl) (fun H locs hG hL => ?_)
  refine lv_if_ne (tgt := 48) hx hb dX10_could_6 (by decide) (fun c6 => ?_) (fun c6 => ?_)
  ·
    refine lv_iconst (v := 0) hx hb dX10_could_48 (by decide) ?_
    exact m_zret S hr hlocks (by decide) hG hL dX10_could_49 (by simp only [fCo, eq_false c6, il1, il2, il3, ↓reduceIte]) (by rfl) (by rfl)
  ·
    refine lv_aload_n hx hb dX10_could_9 rfl (lv_at hl 0 rfl) ?_
    refine m_ga S hG 46 rfl (hts (.fieldLink RX10 128 "SwarmLineModel" "caseSince" "[I") (by decide +kernel)) dX10_could_10 ?_
    refine lv_iload_n hx hb dX10_could_13 rfl (lv_at hl 2 rfl) ?_
    refine m_ld (v := r 46 (Int32.toNatClampNeg c)) S hG 46 rfl (show vp_in c 60 from by assumption) dX10_could_14 (rfl) ?_
    refine lv_iconst (v := (-1)) hx hb dX10_could_15 (by decide) ?_
    refine lv_icmp_eq (tgt := 44) hx hb dX10_could_16 (by decide) (fun c16 => ?_) (fun c16 => ?_)
    ·
      refine lv_iconst (v := 1) hx hb dX10_could_44 (by decide) ?_
      refine lv_goto (tgt := 49) hx hb dX10_could_45 (by decide) ?_
      exact m_zret S hr hlocks (by decide) hG hL dX10_could_49 (by simp only [fCo, eq_true c6, eq_true c16, il1, il2, il3, ↓reduceIte]) (by rfl) (by rfl)
    ·
      refine lv_aload_n hx hb dX10_could_19 rfl (lv_at hl 0 rfl) ?_
      refine m_gi (v := s 1) S hG 1 rfl (hts (.fieldLink RX10 206 "SwarmLineModel" "now" "I") (by decide +kernel)) dX10_could_20 rfl ?_
      refine lv_aload_n hx hb dX10_could_23 rfl (lv_at hl 0 rfl) ?_
      refine lv_iload_n hx hb dX10_could_24 rfl (lv_at hl 1 rfl) ?_
      refine lv_iload_n hx hb dX10_could_25 rfl (lv_at hl 2 rfl) ?_
      refine m_callV (n := 2) (As := [.int k, .int c]) (rest := [.int (s 1)]) (st1 := .int (fWa k c r) :: [.int (s 1)]) S hG hL (c_X10_wayHours hlv k c s r (by assumption) (by assumption) (by assumption)) gX10_could_X10_wayHours rfl (by decide +kernel) ⟨Nat.le_of_ble_eq_true rfl, Nat.le_of_ble_eq_true rfl⟩ rfl hl.1 rfl (Nat.le_of_ble_eq_true rfl) dX10_could_26 ⟨Nat.zero_le _, Nat.zero_le _⟩ (rfl) (fun H locs hG hL => ?_)
      refine lv_iadd hx hb dX10_could_29 ?_
      refine lv_aload_n hx hb dX10_could_30 rfl (lv_at hl 0 rfl) ?_
      refine lv_aload_n hx hb dX10_could_31 rfl (lv_at hl 0 rfl) ?_
      refine m_ga S hG 46 rfl (hts (.fieldLink RX10 128 "SwarmLineModel" "caseSince" "[I") (by decide +kernel)) dX10_could_32 ?_
      refine lv_iload_n hx hb dX10_could_35 rfl (lv_at hl 2 rfl) ?_
      refine m_ld (v := r 46 (Int32.toNatClampNeg c)) S hG 46 rfl (show vp_in c 60 from by assumption) dX10_could_36 (rfl) ?_
      refine lv_iconst (v := 1) hx hb dX10_could_37 (by decide) ?_
      refine m_callV (n := 2) (As := [.int (r 46 (Int32.toNatClampNeg c)), .int 1]) (rest := [.int ((s 1) + (fWa k c r))]) (st1 := .int (fGo (r 46 (Int32.toNatClampNeg c)) 1 s r) :: [.int ((s 1) + (fWa k c r))]) S hG hL (c_X10_goes hlv (r 46 (Int32.toNatClampNeg c)) 1 s r (hs c16)) gX10_could_X10_goes rfl (by decide +kernel) ⟨Nat.le_of_ble_eq_true rfl, Nat.le_of_ble_eq_true rfl⟩ rfl hl.1 rfl (Nat.le_of_ble_eq_true rfl) dX10_could_38 ⟨Nat.zero_le _, Nat.zero_le _⟩ (rfl) (fun H locs hG hL => ?_)
      refine lv_icmp_ge (tgt := 48) hx hb dX10_could_41 (by decide) (fun c41 => ?_) (fun c41 => ?_)
      ·
        refine lv_iconst (v := 0) hx hb dX10_could_48 (by decide) ?_
        exact m_zret S hr hlocks (by decide) hG hL dX10_could_49 (by simp only [fCo, eq_true c6, eq_false c16, eq_true c41, il1, il2, il3, ↓reduceIte]) (by rfl) (by rfl)
      ·
        refine lv_iconst (v := 1) hx hb dX10_could_44 (by decide) ?_
        refine lv_goto (tgt := 49) hx hb dX10_could_45 (by decide) ?_
        exact m_zret S hr hlocks (by decide) hG hL dX10_could_49 (by simp only [fCo, eq_true c6, eq_false c16, eq_false c41, il1, il2, il3, ↓reduceIte]) (by rfl) (by rfl)
