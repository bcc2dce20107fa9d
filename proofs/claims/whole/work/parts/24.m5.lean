/-! a word, a number -/
theorem nle {a b : Nat} (ha : a ≤ 5000) (hb : b ≤ 5000) : nI a ≤ nI b ↔ a ≤ b := nI_leI (by omega) (by omega)
theorem sSg_63 (s : Nat → Int32) (r : Nat → Nat → Int32) : (sSg s r) 63 = nI (aSg s r) := rfl
theorem skp_st (t : Nat → Int32) (e : Nat) : ∀ n i m, e < i + n → i ≤ e → skp t e (m + 1) (skp t e n i) = skp t e n i
  | 0, i, m, h, h2 => by omega
  | n + 1, i, m, h, h2 => by
    by_cases h1 : e ≤ i
    · simp only [skp, eq_true h1, ↓reduceIte]
    · by_cases h3 : t i = 32
      · have ih := skp_st t e n (i + 1) m (by omega) (by omega)
        have q : skp t e (n + 1) i = skp t e n (i + 1) := by simp only [skp, eq_false h1, eq_true h3, ↓reduceIte]
        rw [q]; exact ih
      · simp only [skp, eq_false h1, eq_false h3, ↓reduceIte]
theorem aSg_id {s : Nat → Int32} {r : Nat → Nat → Int32} (h : tB s) : aSg (sSg s r) r = aSg s r := by
  have q := tB_e h
  have q2 := aSg_le (r := r) h
  show skp (r 60) (tE s) (1 + tE s) (Int32.toNatClampNeg (nI (aSg s r))) = aSg s r
  rw [ix_nI (by omega), Nat.add_comm 1 (tE s)]
  have h3 : aSg s r = skp (r 60) (tE s) (1 + tE s) (s 63).toNatClampNeg := rfl
  rw [h3]
  exact skp_st (r 60) (tE s) (1 + tE s) _ (tE s) (by omega) q.2
theorem sSg_id {s : Nat → Int32} {r : Nat → Nat → Int32} (h : tB s) : sSg (sSg s r) r = sSg s r := by
  have e := aSg_id (r := r) h
  show upd (upd s 63 (nI (aSg s r))) 63 (nI (aSg (sSg s r) r)) = _
  rw [e, upd_tw]; rfl
def wvl (t : Nat → Int32) (b lim : Nat) : Nat → Nat → Int64 → Int64
  | 0, _, v => v
  | n + 1, k, v => if b ≤ k then v else if lim ≤ k then v else wvl t b lim n (k + 1) (v <<< (Int32.toInt64 8 &&& 63) ||| Int32.toInt64 (t k))
def bWe (s : Nat → Int32) (r : Nat → Nat → Int32) : Nat := aWe (sSg s r) r
def vWd (s : Nat → Int32) (r : Nat → Nat → Int32) : Int64 := wvl (r 60) (bWe s r) (aSg s r + 7) 8 (aSg s r) 0
def fIw (w : Int64) (s : Nat → Int32) (r : Nat → Nat → Int32) : Int32 := if bWe s r ≤ aSg s r then 0 else if 7 ≤ bWe s r - aSg s r then 0 else if lg_cmp (vWd s r) w = 0 then 1 else 0
theorem bWe_le {s : Nat → Int32} {r : Nat → Nat → Int32} (h : tB s) : bWe s r ≤ tE s ∧ aSg s r ≤ bWe s r := by
  have q := aWe_le (r := r) (tB_sg (r := r) h)
  have q1 := aSg_le (r := r) h
  have q2 := tB_e h
  rw [sSg_63, ix_nI (by omega)] at q
  exact q
theorem fIw_sg {s : Nat → Int32} {r : Nat → Nat → Int32} (w : Int64) (h : tB s) : fIw w (sSg s r) r = fIw w s r := by
  have e1 := aSg_id (r := r) h
  have e2 : bWe (sSg s r) r = bWe s r := by unfold bWe; rw [sSg_id h]
  unfold fIw vWd
  rw [e1, e2]
def fFc (s : Nat → Int32) (r : Nat → Nat → Int32) : Int32 := if fIw 24948 s r = 0 then if fIw 1751738216 s r = 0 then if fIw 495690081125 s r = 0 then if fIw 1835102827 s r = 0 then if fIw 469786780261 s r = 0 then -1 else 4 else 3 else 2 else 1 else 0
def nmR (t : Nat → Int32) (e a : Nat) : Nat → Nat → Int32 → Bool × Nat × Int32
  | 0, j, v => (false, j, v)
  | n + 1, j, v => if e ≤ j then (true, j, v) else if fDi (t j) = 0 then (true, j, v) else if j = a + 3 then (false, j, v) else nmR t e a n (j + 1) (10 * v + t j - 48)
def nmb (s : Nat → Int32) (r : Nat → Nat → Int32) : Bool × Nat × Int32 := nmR (r 60) (tE s) (aSg s r) 5 (aSg s r) 0
def okN (lo hi : Int32) (s : Nat → Int32) (r : Nat → Nat → Int32) : Int32 := if fDi (vSg s r) = 0 then 0 else if (nmb s r).1 = true then (if (nmb s r).2.2 < lo then 0 else if (nmb s r).2.2 ≤ hi then 1 else 0) else 0
def sN (lo hi : Int32) (s : Nat → Int32) (r : Nat → Nat → Int32) : Nat → Int32 := if fDi (vSg s r) = 0 then upd (sSg s r) 64 (nI (aSg s r)) else if okN lo hi s r = 0 then upd (upd (sSg s r) 63 (nI (nmb s r).2.1)) 64 (nI (aSg s r)) else upd (sSg s r) 63 (nI (nmb s r).2.1)
def rN (to lo hi : Int32) (s : Nat → Int32) (r : Nat → Nat → Int32) : Nat → Nat → Int32 := if okN lo hi s r = 0 then r else up2 r 65 (Int32.toNatClampNeg to) (nmb s r).2.2
set_option maxHeartbeats 4000000 in
set_option maxRecDepth 100000 in
theorem c_X10_isWord {l : Launch} {D : va_G} {cI cZ cB cO cR cJ : ClassId} {Hb : Heap} {lv : Nat → Prop} {ad : Nat → Nat} {ce0 : Nat → va_E} (hlv : lM lv) (w : Int64) (s : Nat → Int32) (r : Nat → Nat → Int32) (hB : tB s) : mMet l D cI cZ cB cO cR cJ Hb lv ad ce0 yX10_isWord wsX10_isWord 2 41 [.ref (ad 0), .long w] s r (some (.int (fIw w s r))) (sSg s r) r := by
  refine Met.ofW (cc := cX10_isWord) (maxL := 8) (ret := (some .boolean)) (by decide) rfl ?_
  intro p0 e0 s0 m0 args below meth c0 s₁ B hml hv
  obtain ⟨rfl, hG, hK⟩ := hv
  have hx := B.exec
  have hb := B.bytes
  have hr := B.returns
  have hts := atoms_spec (ws := wsX10_isWord) B.pre
  have hown : s0.vm.findClass RX10 = some m0.cls := findClass_of_methodNamed B.named
  have hlocks := B.notSynchronized
  have S : mX p0 m0 c0 cX10_isWord 8 s0 _ wsX10_isWord D cI cZ cB cO cR cJ lv := ⟨⟨hx, hb, hml, hown, hts⟩, hK, fun w h => List.mem_cons_of_mem _ (List.mem_append_right _ h), hlv⟩
  have hL : gL Hb [] := gL.nil
  have hl := lv_entry ([.ref (ad 0), .long w]) (n := 8) (Nat.le_of_ble_eq_true rfl)
  rw [lg_entry_eq]
  generalize (lg_sl ([.ref (ad 0), .long w]) ++ List.replicate (8 - (lg_sl ([.ref (ad 0), .long w])).length) Slot.unset).toArray = ls at hl ⊢
  have hl : lv_has ls 8 [(0, .ref (ad 0)), (1, .long w)] := hl
  refine lv_aload_n hx hb dX10_isWord_0 rfl (lv_at hl 0 rfl) ?_
  refine m_callV (n := 0) (As := []) (rest := []) (st1 := .int (vSg s r) :: []) S hG hL (c_X10_sign hlv  s r (hB)) gX10_isWord_X10_sign rfl (by decide +kernel) ⟨Nat.le_of_ble_eq_true rfl, Nat.le_of_ble_eq_true rfl⟩ rfl hl.1 rfl (Nat.le_of_ble_eq_true rfl) dX10_isWord_1 ⟨Nat.zero_le _, Nat.zero_le _⟩ (rfl) (fun H locs hG hL => ?_)
  refine lv_istore_n (lv' := [(3, .int (vSg s r)), (0, .ref (ad 0)), (1, .long w)]) hx hb dX10_isWord_4 rfl hl (by decide) rfl (fun ls hl => ?_)
  refine lv_aload_n hx hb dX10_isWord_5 rfl (lv_at hl 1 rfl) ?_
  refine m_callV (n := 0) (As := []) (rest := []) (st1 := .int (nI (aWe (sSg s r) r)) :: []) S hG hL (c_X10_wordEnd hlv  (sSg s r) r (tB_sg hB)) gX10_isWord_X10_wordEnd rfl (by decide +kernel) ⟨Nat.le_of_ble_eq_true rfl, Nat.le_of_ble_eq_true rfl⟩ rfl hl.1 rfl (Nat.le_of_ble_eq_true rfl) dX10_isWord_6 ⟨Nat.zero_le _, Nat.zero_le _⟩ (rfl) (fun H locs hG hL => ?_)
  have hA := bWe_le (r := r) hB; have hE := tB_e hB
  refine lv_istore (lv' := [(4, .int (nI (aWe (sSg s r) r))), (3, .int (vSg s r)), (0, .ref (ad 0)), (1, .long w)]) hx hb dX10_isWord_9 hl (by decide) rfl (fun ls hl => ?_)
  refine lv_lconst (v := 0) hx hb dX10_isWord_11 (by decide) ?_
  refine lv_lstore (lv' := [(5, .long 0), (4, .int (nI (aWe (sSg s r) r))), (3, .int (vSg s r)), (0, .ref (ad 0)), (1, .long w)]) hx hb dX10_isWord_12 hl (by decide) rfl (fun ls hl => ?_)
  refine lv_aload_n hx hb dX10_isWord_14 rfl (lv_at hl 3 rfl) ?_
  refine m_gi (v := (sSg s r) 63) S hG 63 rfl (hts (.fieldLink RX10 238 "SwarmLineModel" "at" "I") (by decide +kernel)) dX10_isWord_15 rfl ?_
  refine lv_istore (lv' := [(7, .int ((sSg s r) 63)), (5, .long 0), (4, .int (nI (aWe (sSg s r) r))), (3, .int (vSg s r)), (0, .ref (ad 0)), (1, .long w)]) hx hb dX10_isWord_18 hl (by decide) rfl (fun ls hl => ?_)
  have LP : ∀ (n : Nat) (k : Nat) (x : Int32) (v : Int64) (ex : x = nI k) (hk : aSg s r ≤ k ∧ k ≤ bWe s r ∧ k ≤ aSg s r + 7) (hn : aSg s r + 8 ≤ k + n) (hF : wvl (r 60) (bWe s r) (aSg s r + 7) n k v = vWd s r), ∀ (H : Heap) (locs : List Loc), gW D Hb lv ad (mJ ce0 ad cI cZ (sSg s r) r) H → gL Hb locs → ∀ (ls : Array Slot), lv_has ls 8 [(0, .ref (ad 0)), (1, .long w), (4, .int (nI (aWe (sSg s r) r))), (5, .long v), (7, .int x)] → W p0 l e0 (headSpec wsX10_isWord { frames := 2, cells := 0, slots := 0, locals := 41 }).room s0 m0 ([.ref (ad 0), .long w] : List Value).toArray below meth c0 H locs 0 0 (MQ below (gQ D Hb lv ad (some (.int (fIw w s r))) (mJ ce0 ad cI cZ (sSg s r) r)) ([.ref (ad 0), .long w] : List Value).toArray s0 0 0 (gA Hb)) (F0 m0 20 ls []) := by
    intro n
    induction n with
    | zero => intro k x v ex hk hn hF; exact absurd hn (by omega)
    | succ n ih =>
      intro k x v ex hk hn hF H locs hG hL ls hl
      refine lv_iload hx hb dX10_isWord_20 (lv_at hl 4 rfl) ?_
      refine lv_iload hx hb dX10_isWord_22 (lv_at hl 2 rfl) ?_
      refine lv_icmp_ge (tgt := 61) hx hb dX10_isWord_24 (by decide) (fun c24 => ?_) (fun c24 => ?_)
      ·
        have h1 := (nle (by omega) (by omega)).mp (ex ▸ c24 : nI (bWe s r) ≤ nI k); have q : vWd s r = v := by rw [← hF]; simp only [wvl, eq_true h1, ↓reduceIte]
        refine lv_iload hx hb dX10_isWord_61 (lv_at hl 2 rfl) ?_
        refine lv_aload_n hx hb dX10_isWord_63 rfl (lv_at hl 0 rfl) ?_
        refine m_gi (v := (sSg s r) 63) S hG 63 rfl (hts (.fieldLink RX10 238 "SwarmLineModel" "at" "I") (by decide +kernel)) dX10_isWord_64 rfl ?_
        refine lv_icmp_le (tgt := 93) hx hb dX10_isWord_67 (by decide) (fun c67 => ?_) (fun c67 => ?_)
        ·
          have g1 : bWe s r ≤ aSg s r := (nle (by omega) (by omega)).mp c67
          refine lv_iconst (v := 0) hx hb dX10_isWord_93 (by decide) ?_
          exact m_zret S hr hlocks (by decide) hG hL dX10_isWord_94 (by simp only [fIw, eq_true g1, ↓reduceIte]) (by rfl) (by rfl)
        ·
          have g1 : ¬ bWe s r ≤ aSg s r := (not_congr (nle (by omega) (by omega))).mp c67
          refine lv_iload hx hb dX10_isWord_70 (lv_at hl 2 rfl) ?_
          refine lv_aload_n hx hb dX10_isWord_72 rfl (lv_at hl 0 rfl) ?_
          refine m_gi (v := (sSg s r) 63) S hG 63 rfl (hts (.fieldLink RX10 238 "SwarmLineModel" "at" "I") (by decide +kernel)) dX10_isWord_73 rfl ?_
          refine lv_isub hx hb dX10_isWord_76 ?_
          refine lv_bipush (v := 7) hx hb dX10_isWord_77 (by decide) ?_
          refine lv_icmp_ge (tgt := 93) hx hb dX10_isWord_79 (by decide) (fun c79 => ?_) (fun c79 => ?_)
          ·
            have g2 : 7 ≤ bWe s r - aSg s r := (nle (by omega) (by omega)).mp (by rw [← pk_sub hA.2]; exact c79)
            refine lv_iconst (v := 0) hx hb dX10_isWord_93 (by decide) ?_
            exact m_zret S hr hlocks (by decide) hG hL dX10_isWord_94 (by simp only [fIw, eq_false g1, eq_true g2, ↓reduceIte]) (by rfl) (by rfl)
          ·
            have g2 : ¬ 7 ≤ bWe s r - aSg s r := (not_congr (nle (by omega) (by omega))).mp (by rw [← pk_sub hA.2]; exact c79)
            refine lv_lload hx hb dX10_isWord_82 (lv_at hl 3 rfl) ?_
            refine lv_lload_n hx hb dX10_isWord_84 rfl (lv_at hl 1 rfl) ?_
            refine W.lcmp hx hb dX10_isWord_85 ?_
            refine lv_if_ne (tgt := 93) hx hb dX10_isWord_86 (by decide) (fun c86 => ?_) (fun c86 => ?_)
            ·
              refine lv_iconst (v := 0) hx hb dX10_isWord_93 (by decide) ?_
              exact m_zret S hr hlocks (by decide) hG hL dX10_isWord_94 (by simp only [fIw, eq_false g1, eq_false g2, q, eq_false c86, ↓reduceIte]) (by rfl) (by rfl)
            ·
              refine lv_iconst (v := 1) hx hb dX10_isWord_89 (by decide) ?_
              refine lv_goto (tgt := 94) hx hb dX10_isWord_90 (by decide) ?_
              exact m_zret S hr hlocks (by decide) hG hL dX10_isWord_94 (by simp only [fIw, eq_false g1, eq_false g2, q, eq_true c86, ↓reduceIte]) (by rfl) (by rfl)
      ·
        refine lv_iload hx hb dX10_isWord_27 (lv_at hl 4 rfl) ?_
        refine lv_aload_n hx hb dX10_isWord_29 rfl (lv_at hl 0 rfl) ?_
        refine m_gi (v := (sSg s r) 63) S hG 63 rfl (hts (.fieldLink RX10 238 "SwarmLineModel" "at" "I") (by decide +kernel)) dX10_isWord_30 rfl ?_
        refine lv_bipush (v := 7) hx hb dX10_isWord_33 (by decide) ?_
        refine lv_iadd hx hb dX10_isWord_35 ?_
        refine lv_icmp_ge (tgt := 61) hx hb dX10_isWord_36 (by decide) (fun c36 => ?_) (fun c36 => ?_)
        ·
          have h1 := (not_congr (nle (by omega) (by omega))).mp (ex ▸ c24 : ¬ nI (bWe s r) ≤ nI k); have h2 := (nle (by omega) (by omega)).mp (ex ▸ (nI_add (aSg s r) 7) ▸ c36 : nI (aSg s r + 7) ≤ nI k); have q : vWd s r = v := by rw [← hF]; simp only [wvl, eq_false h1, eq_true h2, ↓reduceIte]
          refine lv_iload hx hb dX10_isWord_61 (lv_at hl 2 rfl) ?_
          refine lv_aload_n hx hb dX10_isWord_63 rfl (lv_at hl 0 rfl) ?_
          refine m_gi (v := (sSg s r) 63) S hG 63 rfl (hts (.fieldLink RX10 238 "SwarmLineModel" "at" "I") (by decide +kernel)) dX10_isWord_64 rfl ?_
          refine lv_icmp_le (tgt := 93) hx hb dX10_isWord_67 (by decide) (fun c67 => ?_) (fun c67 => ?_)
          ·
            have g1 : bWe s r ≤ aSg s r := (nle (by omega) (by omega)).mp c67
            refine lv_iconst (v := 0) hx hb dX10_isWord_93 (by decide) ?_
            exact m_zret S hr hlocks (by decide) hG hL dX10_isWord_94 (by simp only [fIw, eq_true g1, ↓reduceIte]) (by rfl) (by rfl)
          ·
            have g1 : ¬ bWe s r ≤ aSg s r := (not_congr (nle (by omega) (by omega))).mp c67
            refine lv_iload hx hb dX10_isWord_70 (lv_at hl 2 rfl) ?_
            refine lv_aload_n hx hb dX10_isWord_72 rfl (lv_at hl 0 rfl) ?_
            refine m_gi (v := (sSg s r) 63) S hG 63 rfl (hts (.fieldLink RX10 238 "SwarmLineModel" "at" "I") (by decide +kernel)) dX10_isWord_73 rfl ?_
            refine lv_isub hx hb dX10_isWord_76 ?_
            refine lv_bipush (v := 7) hx hb dX10_isWord_77 (by decide) ?_
            refine lv_icmp_ge (tgt := 93) hx hb dX10_isWord_79 (by decide) (fun c79 => ?_) (fun c79 => ?_)
            ·
              have g2 : 7 ≤ bWe s r - aSg s r := (nle (by omega) (by omega)).mp (by rw [← pk_sub hA.2]; exact c79)
              refine lv_iconst (v := 0) hx hb dX10_isWord_93 (by decide) ?_
              exact m_zret S hr hlocks (by decide) hG hL dX10_isWord_94 (by simp only [fIw, eq_false g1, eq_true g2, ↓reduceIte]) (by rfl) (by rfl)
            ·
              have g2 : ¬ 7 ≤ bWe s r - aSg s r := (not_congr (nle (by omega) (by omega))).mp (by rw [← pk_sub hA.2]; exact c79)
              refine lv_lload hx hb dX10_isWord_82 (lv_at hl 3 rfl) ?_
              refine lv_lload_n hx hb dX10_isWord_84 rfl (lv_at hl 1 rfl) ?_
              refine W.lcmp hx hb dX10_isWord_85 ?_
              refine lv_if_ne (tgt := 93) hx hb dX10_isWord_86 (by decide) (fun c86 => ?_) (fun c86 => ?_)
              ·
                refine lv_iconst (v := 0) hx hb dX10_isWord_93 (by decide) ?_
                exact m_zret S hr hlocks (by decide) hG hL dX10_isWord_94 (by simp only [fIw, eq_false g1, eq_false g2, q, eq_false c86, ↓reduceIte]) (by rfl) (by rfl)
              ·
                refine lv_iconst (v := 1) hx hb dX10_isWord_89 (by decide) ?_
                refine lv_goto (tgt := 94) hx hb dX10_isWord_90 (by decide) ?_
                exact m_zret S hr hlocks (by decide) hG hL dX10_isWord_94 (by simp only [fIw, eq_false g1, eq_false g2, q, eq_true c86, ↓reduceIte]) (by rfl) (by rfl)
        ·
          refine lv_lload hx hb dX10_isWord_39 (lv_at hl 3 rfl) ?_
          refine lv_bipush (v := 8) hx hb dX10_isWord_41 (by decide) ?_
          refine lv_lshl hx hb dX10_isWord_43 rfl ?_
          refine lv_aload_n hx hb dX10_isWord_44 rfl (lv_at hl 0 rfl) ?_
          refine m_ga S hG 60 rfl (hts (.fieldLink RX10 161 "SwarmLineModel" "tape" "[I") (by decide +kernel)) dX10_isWord_45 ?_
          refine lv_iload hx hb dX10_isWord_48 (lv_at hl 4 rfl) ?_
          refine m_ld (v := r 60 (Int32.toNatClampNeg x)) S hG 60 rfl (show vp_in x 400 from by rw [ex]; exact vp_in_i (by have h1 := (not_congr (nle (by omega) (by omega))).mp (ex ▸ c24 : ¬ nI (bWe s r) ≤ nI k); omega) (by omega)) dX10_isWord_50 (rfl) ?_
          refine lv_i2l hx hb dX10_isWord_51 rfl ?_
          refine lv_lor hx hb dX10_isWord_52 ?_
          refine lv_lstore (lv' := [(5, .long ((v <<< (Int32.toInt64 8 &&& 63)) ||| (Int32.toInt64 (r 60 (Int32.toNatClampNeg x))))), (0, .ref (ad 0)), (1, .long w), (4, .int (nI (aWe (sSg s r) r))), (7, .int x)]) hx hb dX10_isWord_53 hl (by decide) rfl (fun ls hl => ?_)
          refine lv_iinc (v := x + 1) (lv' := [(7, .int (x + 1)), (5, .long ((v <<< (Int32.toInt64 8 &&& 63)) ||| (Int32.toInt64 (r 60 (Int32.toNatClampNeg x))))), (0, .ref (ad 0)), (1, .long w), (4, .int (nI (aWe (sSg s r) r)))]) hx hb dX10_isWord_55 hl (k := 4) rfl (by rfl) (by decide) rfl (fun ls hl => ?_)
          refine lv_goto (tgt := 20) hx hb dX10_isWord_58 (by decide) ?_
          exact ih  (k + 1) (x + 1) ((v <<< (Int32.toInt64 8 &&& 63)) ||| (Int32.toInt64 (r 60 (Int32.toNatClampNeg x)))) (by rw [ex]; exact nI_1 k) (by have h1 := (not_congr (nle (by omega) (by omega))).mp (ex ▸ c24 : ¬ nI (bWe s r) ≤ nI k); have h2 := (not_congr (nle (by omega) (by omega))).mp (ex ▸ (nI_add (aSg s r) 7) ▸ c36 : ¬ nI (aSg s r + 7) ≤ nI k); omega) (by omega) (by rw [← hF]; have h1 := (not_congr (nle (by omega) (by omega))).mp (ex ▸ c24 : ¬ nI (bWe s r) ≤ nI k); have h2 := (not_congr (nle (by omega) (by omega))).mp (ex ▸ (nI_add (aSg s r) 7) ▸ c36 : ¬ nI (aSg s r + 7) ≤ nI k); simp only [wvl, eq_false h1, eq_false h2, ↓reduceIte, ex]; rw [ix_nI (by omega)]) _ _ hG hL _ (lv_sub hl [2, 3, 4, 1, 0] rfl)
  exact LP 8 (aSg s r) ((sSg s r) 63) 0 (rfl) (by omega) (by omega) (rfl) _ _ hG hL _ (lv_sub hl [4, 5, 2, 1, 0] rfl)
set_option maxHeartbeats 4000000 in
set_option maxRecDepth 100000 in
theorem c_X10_factOf {l : Launch} {D : va_G} {cI cZ cB cO cR cJ : ClassId} {Hb : Heap} {lv : Nat → Prop} {ad : Nat → Nat} {ce0 : Nat → va_E} (hlv : lM lv)  (s : Nat → Int32) (r : Nat → Nat → Int32) (hB : tB s) : mMet l D cI cZ cB cO cR cJ Hb lv ad ce0 yX10_factOf wsX10_factOf 3 68 [.ref (ad 0)] s r (some (.int (fFc s r))) (sSg s r) r := by
  refine Met.ofW (cc := cX10_factOf) (maxL := 1) (ret := (some .int)) (by decide) rfl ?_
  intro p0 e0 s0 m0 args below meth c0 s₁ B hml hv
  obtain ⟨rfl, hG, hK⟩ := hv
  have hx := B.exec
  have hb := B.bytes
  have hr := B.returns
  have hts := atoms_spec (ws := wsX10_factOf) B.pre
  have hown : s0.vm.findClass RX10 = some m0.cls := findClass_of_methodNamed B.named
  have hlocks := B.notSynchronized
  have S : mX p0 m0 c0 cX10_factOf 1 s0 _ wsX10_factOf D cI cZ cB cO cR cJ lv := ⟨⟨hx, hb, hml, hown, hts⟩, hK, fun w h => List.mem_cons_of_mem _ (List.mem_append_right _ h), hlv⟩
  have hL : gL Hb [] := gL.nil
  have hl := lv_entry ([.ref (ad 0)]) (n := 1) (Nat.le_of_ble_eq_true rfl)
  rw [lg_entry_eq]
  generalize (lg_sl ([.ref (ad 0)]) ++ List.replicate (1 - (lg_sl ([.ref (ad 0)])).length) Slot.unset).toArray = ls at hl ⊢
  have hl : lv_has ls 1 [(0, .ref (ad 0))] := hl
  refine lv_aload_n hx hb dX10_factOf_0 rfl (lv_at hl 0 rfl) ?_
  refine lv_ldc2 (v := 24948) hx hb hown (hts (.constantLong RX10 260 24948) (by decide +kernel)) dX10_factOf_1 ?_
  refine m_callV (n := 1) (As := [.long 24948]) (rest := []) (st1 := .int (fIw 24948 s r) :: []) S hG hL (c_X10_isWord hlv 24948 s r (hB)) gX10_factOf_X10_isWord rfl (by decide +kernel) ⟨Nat.le_of_ble_eq_true rfl, Nat.le_of_ble_eq_true rfl⟩ rfl hl.1 rfl (Nat.le_of_ble_eq_true rfl) dX10_factOf_4 ⟨Nat.zero_le _, Nat.zero_le _⟩ (rfl) (fun H locs hG hL => ?_)
  refine lv_if_eq (tgt := 14) hx hb dX10_factOf_7 (by decide) (fun c7 => ?_) (fun c7 => ?_)
  ·
    refine lv_aload_n hx hb dX10_factOf_14 rfl (lv_at hl 0 rfl) ?_
    refine lv_ldc2 (v := 1751738216) hx hb hown (hts (.constantLong RX10 266 1751738216) (by decide +kernel)) dX10_factOf_15 ?_
    refine m_callV (n := 1) (As := [.long 1751738216]) (rest := []) (st1 := .int (fIw 1751738216 (sSg s r) r) :: []) S hG hL (c_X10_isWord hlv 1751738216 (sSg s r) r (tB_sg hB)) gX10_factOf_X10_isWord rfl (by decide +kernel) ⟨Nat.le_of_ble_eq_true rfl, Nat.le_of_ble_eq_true rfl⟩ rfl hl.1 rfl (Nat.le_of_ble_eq_true rfl) dX10_factOf_18 ⟨Nat.zero_le _, Nat.zero_le _⟩ (rfl) (fun H locs hG hL => ?_)
    rw [sSg_id hB] at hG
    refine lv_if_eq (tgt := 28) hx hb dX10_factOf_21 (by decide) (fun c21 => ?_) (fun c21 => ?_)
    ·
      refine lv_aload_n hx hb dX10_factOf_28 rfl (lv_at hl 0 rfl) ?_
      refine lv_ldc2 (v := 495690081125) hx hb hown (hts (.constantLong RX10 268 495690081125) (by decide +kernel)) dX10_factOf_29 ?_
      refine m_callV (n := 1) (As := [.long 495690081125]) (rest := []) (st1 := .int (fIw 495690081125 (sSg s r) r) :: []) S hG hL (c_X10_isWord hlv 495690081125 (sSg s r) r (tB_sg hB)) gX10_factOf_X10_isWord rfl (by decide +kernel) ⟨Nat.le_of_ble_eq_true rfl, Nat.le_of_ble_eq_true rfl⟩ rfl hl.1 rfl (Nat.le_of_ble_eq_true rfl) dX10_factOf_32 ⟨Nat.zero_le _, Nat.zero_le _⟩ (rfl) (fun H locs hG hL => ?_)
      rw [sSg_id hB] at hG
      refine lv_if_eq (tgt := 42) hx hb dX10_factOf_35 (by decide) (fun c35 => ?_) (fun c35 => ?_)
      ·
        refine lv_aload_n hx hb dX10_factOf_42 rfl (lv_at hl 0 rfl) ?_
        refine lv_ldc2 (v := 1835102827) hx hb hown (hts (.constantLong RX10 270 1835102827) (by decide +kernel)) dX10_factOf_43 ?_
        refine m_callV (n := 1) (As := [.long 1835102827]) (rest := []) (st1 := .int (fIw 1835102827 (sSg s r) r) :: []) S hG hL (c_X10_isWord hlv 1835102827 (sSg s r) r (tB_sg hB)) gX10_factOf_X10_isWord rfl (by decide +kernel) ⟨Nat.le_of_ble_eq_true rfl, Nat.le_of_ble_eq_true rfl⟩ rfl hl.1 rfl (Nat.le_of_ble_eq_true rfl) dX10_factOf_46 ⟨Nat.zero_le _, Nat.zero_le _⟩ (rfl) (fun H locs hG hL => ?_)
        rw [sSg_id hB] at hG
        refine lv_if_eq (tgt := 56) hx hb dX10_factOf_49 (by decide) (fun c49 => ?_) (fun c49 => ?_)
        ·
          refine lv_aload_n hx hb dX10_factOf_56 rfl (lv_at hl 0 rfl) ?_
          refine lv_ldc2 (v := 469786780261) hx hb hown (hts (.constantLong RX10 272 469786780261) (by decide +kernel)) dX10_factOf_57 ?_
          refine m_callV (n := 1) (As := [.long 469786780261]) (rest := []) (st1 := .int (fIw 469786780261 (sSg s r) r) :: []) S hG hL (c_X10_isWord hlv 469786780261 (sSg s r) r (tB_sg hB)) gX10_factOf_X10_isWord rfl (by decide +kernel) ⟨Nat.le_of_ble_eq_true rfl, Nat.le_of_ble_eq_true rfl⟩ rfl hl.1 rfl (Nat.le_of_ble_eq_true rfl) dX10_factOf_60 ⟨Nat.zero_le _, Nat.zero_le _⟩ (rfl) (fun H locs hG hL => ?_)
          rw [sSg_id hB] at hG
          refine lv_if_eq (tgt := 70) hx hb dX10_factOf_63 (by decide) (fun c63 => ?_) (fun c63 => ?_)
          ·
            refine lv_iconst (v := (-1)) hx hb dX10_factOf_70 (by decide) ?_
            exact m_iret S hr hlocks hG hL dX10_factOf_71 (by rw [fIw_sg _ hB] at c21; rw [fIw_sg _ hB] at c35; rw [fIw_sg _ hB] at c49; rw [fIw_sg _ hB] at c63; simp only [fFc, eq_true c7, eq_true c21, eq_true c35, eq_true c49, eq_true c63, il1, il2, il3, ↓reduceIte]) (by rfl) (by rfl)
          ·
            refine lv_iconst (v := 4) hx hb dX10_factOf_66 (by decide) ?_
            refine lv_goto (tgt := 71) hx hb dX10_factOf_67 (by decide) ?_
            exact m_iret S hr hlocks hG hL dX10_factOf_71 (by rw [fIw_sg _ hB] at c21; rw [fIw_sg _ hB] at c35; rw [fIw_sg _ hB] at c49; rw [fIw_sg _ hB] at c63; simp only [fFc, eq_true c7, eq_true c21, eq_true c35, eq_true c49, eq_false c63, il1, il2, il3, ↓reduceIte]) (by rfl) (by rfl)
        ·
          refine lv_iconst (v := 3) hx hb dX10_factOf_52 (by decide) ?_
          refine lv_goto (tgt := 71) hx hb dX10_factOf_53 (by decide) ?_
          exact m_iret S hr hlocks hG hL dX10_factOf_71 (by rw [fIw_sg _ hB] at c21; rw [fIw_sg _ hB] at c35; rw [fIw_sg _ hB] at c49; simp only [fFc, eq_true c7, eq_true c21, eq_true c35, eq_false c49, il1, il2, il3, ↓reduceIte]) (by rfl) (by rfl)
      ·
        refine lv_iconst (v := 2) hx hb dX10_factOf_38 (by decide) ?_
        refine lv_goto (tgt := 71) hx hb dX10_factOf_39 (by decide) ?_
        exact m_iret S hr hlocks hG hL dX10_factOf_71 (by rw [fIw_sg _ hB] at c21; rw [fIw_sg _ hB] at c35; simp only [fFc, eq_true c7, eq_true c21, eq_false c35, il1, il2, il3, ↓reduceIte]) (by rfl) (by rfl)
    ·
      refine lv_iconst (v := 1) hx hb dX10_factOf_24 (by decide) ?_
      refine lv_goto (tgt := 71) hx hb dX10_factOf_25 (by decide) ?_
      exact m_iret S hr hlocks hG hL dX10_factOf_71 (by rw [fIw_sg _ hB] at c21; simp only [fFc, eq_true c7, eq_false c21, il1, il2, il3, ↓reduceIte]) (by rfl) (by rfl)
  ·
    refine lv_iconst (v := 0) hx hb dX10_factOf_10 (by decide) ?_
    refine lv_goto (tgt := 71) hx hb dX10_factOf_11 (by decide) ?_
    exact m_iret S hr hlocks hG hL dX10_factOf_71 (by simp only [fFc, eq_false c7, il1, il2, il3, ↓reduceIte]) (by rfl) (by rfl)
set_option maxHeartbeats 4000000 in
set_option maxRecDepth 100000 in
theorem c_X10_number {l : Launch} {D : va_G} {cI cZ cB cO cR cJ : ClassId} {Hb : Heap} {lv : Nat → Prop} {ad : Nat → Nat} {ce0 : Nat → va_E} (hlv : lM lv) (to : Int32) (lo : Int32) (hi : Int32) (s : Nat → Int32) (r : Nat → Nat → Int32) (hB : tB s) (ht : vp_in to 6) : mMet l D cI cZ cB cO cR cJ Hb lv ad ce0 yX10_number wsX10_number 1 21 [.ref (ad 0), .int to, .int lo, .int hi] s r (some (.int (okN lo hi s r))) (sN lo hi s r) (rN to lo hi s r) := by
  refine Met.ofW (cc := cX10_number) (maxL := 6) (ret := (some .boolean)) (by decide) rfl ?_
  intro p0 e0 s0 m0 args below meth c0 s₁ B hml hv
  obtain ⟨rfl, hG, hK⟩ := hv
  have hx := B.exec
  have hb := B.bytes
  have hr := B.returns
  have hts := atoms_spec (ws := wsX10_number) B.pre
  have hown : s0.vm.findClass RX10 = some m0.cls := findClass_of_methodNamed B.named
  have hlocks := B.notSynchronized
  have S : mX p0 m0 c0 cX10_number 6 s0 _ wsX10_number D cI cZ cB cO cR cJ lv := ⟨⟨hx, hb, hml, hown, hts⟩, hK, fun w h => List.mem_cons_of_mem _ (List.mem_append_right _ h), hlv⟩
  have hL : gL Hb [] := gL.nil
  have hl := lv_entry ([.ref (ad 0), .int to, .int lo, .int hi]) (n := 6) (Nat.le_of_ble_eq_true rfl)
  rw [lg_entry_eq]
  generalize (lg_sl ([.ref (ad 0), .int to, .int lo, .int hi]) ++ List.replicate (6 - (lg_sl ([.ref (ad 0), .int to, .int lo, .int hi])).length) Slot.unset).toArray = ls at hl ⊢
  have hl : lv_has ls 6 [(0, .ref (ad 0)), (1, .int to), (2, .int lo), (3, .int hi)] := hl
  refine lv_aload_n hx hb dX10_number_0 rfl (lv_at hl 0 rfl) ?_
  refine m_callV (n := 0) (As := []) (rest := []) (st1 := .int (vSg s r) :: []) S hG hL (c_X10_sign hlv  s r (hB)) gX10_number_X10_sign rfl (by decide +kernel) ⟨Nat.le_of_ble_eq_true rfl, Nat.le_of_ble_eq_true rfl⟩ rfl hl.1 rfl (Nat.le_of_ble_eq_true rfl) dX10_number_1 ⟨Nat.zero_le _, Nat.zero_le _⟩ (rfl) (fun H locs hG hL => ?_)
  refine m_callP (n := 1) (As := [.int (vSg s r)]) (rest := []) (st1 := .int (fDi (vSg s r)) :: []) S.1 (c_X10_isDigit (vSg s r)) gX10_number_X10_isDigit rfl (by decide +kernel) ⟨Nat.le_of_ble_eq_true rfl, Nat.le_of_ble_eq_true rfl⟩ rfl hl.1 rfl (Nat.le_of_ble_eq_true rfl) dX10_number_4 ⟨Nat.zero_le _, Nat.zero_le _⟩ rfl ?_
  refine lv_if_ne (tgt := 19) hx hb dX10_number_7 (by decide) (fun c7 => ?_) (fun c7 => ?_)
  ·
    refine lv_aload_n hx hb dX10_number_19 rfl (lv_at hl 0 rfl) ?_
    refine m_gi (v := (sSg s r) 63) S hG 63 rfl (hts (.fieldLink RX10 238 "SwarmLineModel" "at" "I") (by decide +kernel)) dX10_number_20 rfl ?_
    refine lv_istore (lv' := [(4, .int ((sSg s r) 63)), (0, .ref (ad 0)), (1, .int to), (2, .int lo), (3, .int hi)]) hx hb dX10_number_23 hl (by decide) rfl (fun ls hl => ?_)
    refine lv_iconst (v := 0) hx hb dX10_number_25 (by decide) ?_
    refine lv_istore (lv' := [(5, .int 0), (4, .int ((sSg s r) 63)), (0, .ref (ad 0)), (1, .int to), (2, .int lo), (3, .int hi)]) hx hb dX10_number_26 hl (by decide) rfl (fun ls hl => ?_)
    have LP : ∀ (n : Nat) (k : Nat) (x : Int32) (v : Int32) (ex : x = nI k) (hk : aSg s r ≤ k ∧ k ≤ aSg s r + 3 ∧ k ≤ tE s) (hn : aSg s r + 5 ≤ k + n) (hF : nmR (r 60) (tE s) (aSg s r) n k v = nmb s r), ∀ (H : Heap) (locs : List Loc), gW D Hb lv ad (mJ ce0 ad cI cZ (upd (sSg s r) 63 x) r) H → gL Hb locs → ∀ (ls : Array Slot), lv_has ls 6 [(0, .ref (ad 0)), (1, .int to), (2, .int lo), (3, .int hi), (4, .int (sSg s r 63)), (5, .int v)] → W p0 l e0 (headSpec wsX10_number { frames := 1, cells := 0, slots := 0, locals := 21 }).room s0 m0 ([.ref (ad 0), .int to, .int lo, .int hi] : List Value).toArray below meth c0 H locs 0 0 (MQ below (gQ D Hb lv ad (some (.int (okN lo hi s r))) (mJ ce0 ad cI cZ (sN lo hi s r) (rN to lo hi s r))) ([.ref (ad 0), .int to, .int lo, .int hi] : List Value).toArray s0 0 0 (gA Hb)) (F0 m0 28 ls []) := by
      intro n
      induction n with
      | zero => intro k x v ex hk hn hF; exact absurd hn (by omega)
      | succ n ih =>
        intro k x v ex hk hn hF H locs hG hL ls hl
        have hE := tB_e hB
        refine lv_aload_n hx hb dX10_number_28 rfl (lv_at hl 0 rfl) ?_
        refine m_gi (v := x) S hG 63 rfl (hts (.fieldLink RX10 238 "SwarmLineModel" "at" "I") (by decide +kernel)) dX10_number_29 rfl ?_
        refine lv_aload_n hx hb dX10_number_32 rfl (lv_at hl 0 rfl) ?_
        refine m_gi (v := (sSg s r) 62) S hG 62 rfl (hts (.fieldLink RX10 241 "SwarmLineModel" "textEnd" "I") (by decide +kernel)) dX10_number_33 rfl ?_
        refine lv_icmp_ge (tgt := 105) hx hb dX10_number_36 (by decide) (fun c36 => ?_) (fun c36 => ?_)
        ·
          have h1 : tE s ≤ k := (tB_ge hB hk.2.2).mp (ex ▸ c36)
          refine lv_iload hx hb dX10_number_105 (lv_at hl 5 rfl) ?_
          refine lv_iload_n hx hb dX10_number_107 rfl (lv_at hl 2 rfl) ?_
          refine lv_icmp_lt (tgt := 117) hx hb dX10_number_108 (by decide) (fun c108 => ?_) (fun c108 => ?_)
          ·
            refine lv_aload_n hx hb dX10_number_117 rfl (lv_at hl 0 rfl) ?_
            refine lv_iload hx hb dX10_number_118 (lv_at hl 4 rfl) ?_
            refine m_callV (n := 1) (As := [.int (sSg s r 63)]) (rest := []) (st1 := .int 0 :: []) S hG hL (c_X10_wrong hlv (sSg s r 63) (upd (sSg s r) 63 x) r ) gX10_number_X10_wrong rfl (by decide +kernel) ⟨Nat.le_of_ble_eq_true rfl, Nat.le_of_ble_eq_true rfl⟩ rfl hl.1 rfl (Nat.le_of_ble_eq_true rfl) dX10_number_120 ⟨Nat.zero_le _, Nat.zero_le _⟩ (rfl) (fun H locs hG hL => ?_)
            exact m_zret S hr hlocks (by decide) hG hL dX10_number_123 (by have q : nmb s r = (true, k, v) := (by rw [← hF]; simp only [nmR, eq_true h1, ↓reduceIte]); simp only [okN, eq_false c7, q, eq_true c108,  il1, reduceCtorEq, ↓reduceIte]; try rw [ex]; try rfl) (by have q : nmb s r = (true, k, v) := (by rw [← hF]; simp only [nmR, eq_true h1, ↓reduceIte]); simp only [okN, sN, eq_false c7, q, eq_true c108,  il1, reduceCtorEq, ↓reduceIte]; try rw [ex]; try rfl) (by have q : nmb s r = (true, k, v) := (by rw [← hF]; simp only [nmR, eq_true h1, ↓reduceIte]); simp only [okN, rN, eq_false c7, q, eq_true c108,  il1, reduceCtorEq, ↓reduceIte]; try rw [ex]; try rfl)
          ·
            refine lv_iload hx hb dX10_number_111 (lv_at hl 5 rfl) ?_
            refine lv_iload_n hx hb dX10_number_113 rfl (lv_at hl 3 rfl) ?_
            refine lv_icmp_le (tgt := 124) hx hb dX10_number_114 (by decide) (fun c114 => ?_) (fun c114 => ?_)
            ·
              refine lv_aload_n hx hb dX10_number_124 rfl (lv_at hl 0 rfl) ?_
              refine m_ga S hG 65 rfl (hts (.fieldLink RX10 168 "SwarmLineModel" "fact" "[I") (by decide +kernel)) dX10_number_125 ?_
              refine lv_iload_n hx hb dX10_number_128 rfl (lv_at hl 1 rfl) ?_
              refine lv_iload hx hb dX10_number_129 (lv_at hl 5 rfl) ?_
              refine m_st S hG hL 65 rfl (show vp_in to 6 from ht) dX10_number_131 (fun H locs hG hL => ?_)
              refine lv_iconst (v := 1) hx hb dX10_number_132 (by decide) ?_
              exact m_zret S hr hlocks (by decide) hG hL dX10_number_133 (by have q : nmb s r = (true, k, v) := (by rw [← hF]; simp only [nmR, eq_true h1, ↓reduceIte]); simp only [okN, eq_false c7, q, eq_false c108, eq_true c114,  il1, reduceCtorEq, ↓reduceIte]; try rw [ex]; try rfl) (by have q : nmb s r = (true, k, v) := (by rw [← hF]; simp only [nmR, eq_true h1, ↓reduceIte]); simp only [okN, sN, eq_false c7, q, eq_false c108, eq_true c114,  il1, reduceCtorEq, ↓reduceIte]; try rw [ex]; try rfl) (by have q : nmb s r = (true, k, v) := (by rw [← hF]; simp only [nmR, eq_true h1, ↓reduceIte]); simp only [okN, rN, eq_false c7, q, eq_false c108, eq_true c114,  il1, reduceCtorEq, ↓reduceIte]; try rw [ex]; try rfl)
            ·
              refine lv_aload_n hx hb dX10_number_117 rfl (lv_at hl 0 rfl) ?_
              refine lv_iload hx hb dX10_number_118 (lv_at hl 4 rfl) ?_
              refine m_callV (n := 1) (As := [.int (sSg s r 63)]) (rest := []) (st1 := .int 0 :: []) S hG hL (c_X10_wrong hlv (sSg s r 63) (upd (sSg s r) 63 x) r ) gX10_number_X10_wrong rfl (by decide +kernel) ⟨Nat.le_of_ble_eq_true rfl, Nat.le_of_ble_eq_true rfl⟩ rfl hl.1 rfl (Nat.le_of_ble_eq_true rfl) dX10_number_120 ⟨Nat.zero_le _, Nat.zero_le _⟩ (rfl) (fun H locs hG hL => ?_)
              exact m_zret S hr hlocks (by decide) hG hL dX10_number_123 (by have q : nmb s r = (true, k, v) := (by rw [← hF]; simp only [nmR, eq_true h1, ↓reduceIte]); simp only [okN, eq_false c7, q, eq_false c108, eq_false c114,  il1, reduceCtorEq, ↓reduceIte]; try rw [ex]; try rfl) (by have q : nmb s r = (true, k, v) := (by rw [← hF]; simp only [nmR, eq_true h1, ↓reduceIte]); simp only [okN, sN, eq_false c7, q, eq_false c108, eq_false c114,  il1, reduceCtorEq, ↓reduceIte]; try rw [ex]; try rfl) (by have q : nmb s r = (true, k, v) := (by rw [← hF]; simp only [nmR, eq_true h1, ↓reduceIte]); simp only [okN, rN, eq_false c7, q, eq_false c108, eq_false c114,  il1, reduceCtorEq, ↓reduceIte]; try rw [ex]; try rfl)
        ·
          have h1 : ¬ tE s ≤ k := (not_congr (tB_ge hB hk.2.2)).mp (ex ▸ c36)
          refine lv_aload_n hx hb dX10_number_39 rfl (lv_at hl 0 rfl) ?_
          refine m_ga S hG 60 rfl (hts (.fieldLink RX10 161 "SwarmLineModel" "tape" "[I") (by decide +kernel)) dX10_number_40 ?_
          refine lv_aload_n hx hb dX10_number_43 rfl (lv_at hl 0 rfl) ?_
          refine m_gi (v := x) S hG 63 rfl (hts (.fieldLink RX10 238 "SwarmLineModel" "at" "I") (by decide +kernel)) dX10_number_44 rfl ?_
          refine m_ld (v := r 60 (Int32.toNatClampNeg x)) S hG 60 rfl (show vp_in x 400 from by rw [ex]; exact vp_in_i (by have h1 := (not_congr (tB_ge hB hk.2.2)).mp (ex ▸ c36); omega) (by omega)) dX10_number_47 (rfl) ?_
          refine m_callP (n := 1) (As := [.int (r 60 (Int32.toNatClampNeg x))]) (rest := []) (st1 := .int (fDi (r 60 (Int32.toNatClampNeg x))) :: []) S.1 (c_X10_isDigit (r 60 (Int32.toNatClampNeg x))) gX10_number_X10_isDigit rfl (by decide +kernel) ⟨Nat.le_of_ble_eq_true rfl, Nat.le_of_ble_eq_true rfl⟩ rfl hl.1 rfl (Nat.le_of_ble_eq_true rfl) dX10_number_48 ⟨Nat.zero_le _, Nat.zero_le _⟩ rfl ?_
          refine lv_if_eq (tgt := 105) hx hb dX10_number_51 (by decide) (fun c51 => ?_) (fun c51 => ?_)
          ·
            have h2 := c51; rw [ex, ix_nI (by omega)] at h2; have q : nmb s r = (true, k, v) := by rw [← hF]; simp only [nmR, eq_false h1, eq_true h2, ↓reduceIte]
            refine lv_iload hx hb dX10_number_105 (lv_at hl 5 rfl) ?_
            refine lv_iload_n hx hb dX10_number_107 rfl (lv_at hl 2 rfl) ?_
            refine lv_icmp_lt (tgt := 117) hx hb dX10_number_108 (by decide) (fun c108 => ?_) (fun c108 => ?_)
            ·
              refine lv_aload_n hx hb dX10_number_117 rfl (lv_at hl 0 rfl) ?_
              refine lv_iload hx hb dX10_number_118 (lv_at hl 4 rfl) ?_
              refine m_callV (n := 1) (As := [.int (sSg s r 63)]) (rest := []) (st1 := .int 0 :: []) S hG hL (c_X10_wrong hlv (sSg s r 63) (upd (sSg s r) 63 x) r ) gX10_number_X10_wrong rfl (by decide +kernel) ⟨Nat.le_of_ble_eq_true rfl, Nat.le_of_ble_eq_true rfl⟩ rfl hl.1 rfl (Nat.le_of_ble_eq_true rfl) dX10_number_120 ⟨Nat.zero_le _, Nat.zero_le _⟩ (rfl) (fun H locs hG hL => ?_)
              exact m_zret S hr hlocks (by decide) hG hL dX10_number_123 (by skip; simp only [okN, eq_false c7, q, eq_true c108,  il1, reduceCtorEq, ↓reduceIte]; try rw [ex]; try rfl) (by skip; simp only [okN, sN, eq_false c7, q, eq_true c108,  il1, reduceCtorEq, ↓reduceIte]; try rw [ex]; try rfl) (by skip; simp only [okN, rN, eq_false c7, q, eq_true c108,  il1, reduceCtorEq, ↓reduceIte]; try rw [ex]; try rfl)
            ·
              refine lv_iload hx hb dX10_number_111 (lv_at hl 5 rfl) ?_
              refine lv_iload_n hx hb dX10_number_113 rfl (lv_at hl 3 rfl) ?_
              refine lv_icmp_le (tgt := 124) hx hb dX10_number_114 (by decide) (fun c114 => ?_) (fun c114 => ?_)
              ·
                refine lv_aload_n hx hb dX10_number_124 rfl (lv_at hl 0 rfl) ?_
                refine m_ga S hG 65 rfl (hts (.fieldLink RX10 168 "SwarmLineModel" "fact" "[I") (by decide +kernel)) dX10_number_125 ?_
                refine lv_iload_n hx hb dX10_number_128 rfl (lv_at hl 1 rfl) ?_
                refine lv_iload hx hb dX10_number_129 (lv_at hl 5 rfl) ?_
                refine m_st S hG hL 65 rfl (show vp_in to 6 from ht) dX10_number_131 (fun H locs hG hL => ?_)
                refine lv_iconst (v := 1) hx hb dX10_number_132 (by decide) ?_
                exact m_zret S hr hlocks (by decide) hG hL dX10_number_133 (by skip; simp only [okN, eq_false c7, q, eq_false c108, eq_true c114,  il1, reduceCtorEq, ↓reduceIte]; try rw [ex]; try rfl) (by skip; simp only [okN, sN, eq_false c7, q, eq_false c108, eq_true c114,  il1, reduceCtorEq, ↓reduceIte]; try rw [ex]; try rfl) (by skip; simp only [okN, rN, eq_false c7, q, eq_false c108, eq_true c114,  il1, reduceCtorEq, ↓reduceIte]; try rw [ex]; try rfl)
              ·
                refine lv_aload_n hx hb dX10_number_117 rfl (lv_at hl 0 rfl) ?_
                refine lv_iload hx hb dX10_number_118 (lv_at hl 4 rfl) ?_
                refine m_callV (n := 1) (As := [.int (sSg s r 63)]) (rest := []) (st1 := .int 0 :: []) S hG hL (c_X10_wrong hlv (sSg s r 63) (upd (sSg s r) 63 x) r ) gX10_number_X10_wrong rfl (by decide +kernel) ⟨Nat.le_of_ble_eq_true rfl, Nat.le_of_ble_eq_true rfl⟩ rfl hl.1 rfl (Nat.le_of_ble_eq_true rfl) dX10_number_120 ⟨Nat.zero_le _, Nat.zero_le _⟩ (rfl) (fun H locs hG hL => ?_)
                exact m_zret S hr hlocks (by decide) hG hL dX10_number_123 (by skip; simp only [okN, eq_false c7, q, eq_false c108, eq_false c114,  il1, reduceCtorEq, ↓reduceIte]; try rw [ex]; try rfl) (by skip; simp only [okN, sN, eq_false c7, q, eq_false c108, eq_false c114,  il1, reduceCtorEq, ↓reduceIte]; try rw [ex]; try rfl) (by skip; simp only [okN, rN, eq_false c7, q, eq_false c108, eq_false c114,  il1, reduceCtorEq, ↓reduceIte]; try rw [ex]; try rfl)
          ·
            have h2 := c51; rw [ex, ix_nI (by omega)] at h2
            refine lv_aload_n hx hb dX10_number_54 rfl (lv_at hl 0 rfl) ?_
            refine m_gi (v := x) S hG 63 rfl (hts (.fieldLink RX10 238 "SwarmLineModel" "at" "I") (by decide +kernel)) dX10_number_55 rfl ?_
            refine lv_iload hx hb dX10_number_58 (lv_at hl 4 rfl) ?_
            refine lv_isub hx hb dX10_number_60 ?_
            refine lv_iconst (v := 3) hx hb dX10_number_61 (by decide) ?_
            refine lv_icmp_ne (tgt := 72) hx hb dX10_number_62 (by decide) (fun c62 => ?_) (fun c62 => ?_)
            ·
              have h3 : ¬ k = aSg s r + 3 := fun h => c62 (by rw [ex]; show nI k - nI (aSg s r) = nI 3; rw [pk_sub hk.1]; congr 1; omega)
              refine lv_bipush (v := 10) hx hb dX10_number_72 (by decide) ?_
              refine lv_iload hx hb dX10_number_74 (lv_at hl 5 rfl) ?_
              refine lv_imul hx hb dX10_number_76 ?_
              refine lv_aload_n hx hb dX10_number_77 rfl (lv_at hl 0 rfl) ?_
              refine m_ga S hG 60 rfl (hts (.fieldLink RX10 161 "SwarmLineModel" "tape" "[I") (by decide +kernel)) dX10_number_78 ?_
              refine lv_aload_n hx hb dX10_number_81 rfl (lv_at hl 0 rfl) ?_
              refine m_gi (v := x) S hG 63 rfl (hts (.fieldLink RX10 238 "SwarmLineModel" "at" "I") (by decide +kernel)) dX10_number_82 rfl ?_
              refine m_ld (v := r 60 (Int32.toNatClampNeg x)) S hG 60 rfl (show vp_in x 400 from by rw [ex]; exact vp_in_i (by have h1 := (not_congr (tB_ge hB hk.2.2)).mp (ex ▸ c36); omega) (by omega)) dX10_number_85 (rfl) ?_
              refine lv_iadd hx hb dX10_number_86 ?_
              refine lv_bipush (v := 48) hx hb dX10_number_87 (by decide) ?_
              refine lv_isub hx hb dX10_number_89 ?_
              refine lv_istore (lv' := [(5, .int (((10 * v) + (r 60 (Int32.toNatClampNeg x))) - 48)), (0, .ref (ad 0)), (1, .int to), (2, .int lo), (3, .int hi), (4, .int (sSg s r 63))]) hx hb dX10_number_90 hl (by decide) rfl (fun ls hl => ?_)
              refine lv_aload_n hx hb dX10_number_92 rfl (lv_at hl 1 rfl) ?_
              refine lv_dup hx hb dX10_number_93 rfl ?_
              refine m_gi (v := x) S hG 63 rfl (hts (.fieldLink RX10 238 "SwarmLineModel" "at" "I") (by decide +kernel)) dX10_number_94 rfl ?_
              refine lv_iconst (v := 1) hx hb dX10_number_97 (by decide) ?_
              refine lv_iadd hx hb dX10_number_98 ?_
              refine m_pj (sm2 := (upd (sSg s r) 63 (x + 1))) S hG hL 63 rfl (hts (.fieldLink RX10 238 "SwarmLineModel" "at" "I") (by decide +kernel)) dX10_number_99 (upd_tw ..) (fun H locs hG hL => ?_)
              refine lv_goto (tgt := 28) hx hb dX10_number_102 (by decide) ?_
              exact ih  (k + 1) (x + 1) (((10 * v) + (r 60 (Int32.toNatClampNeg x))) - 48) (by rw [ex]; exact nI_1 k) (by omega) (by omega) (by rw [← hF]; simp only [nmR, eq_false h1, eq_false h2, eq_false h3, ↓reduceIte, ex]; rw [ix_nI (by omega)]) _ _ hG hL _ (lv_sub hl [1, 2, 3, 4, 5, 0] rfl)
            ·
              have h3 : k = aSg s r + 3 := by have e3 : nI (k - aSg s r) = nI 3 := by { rw [← pk_sub hk.1, ← ex]; exact c62 }; have := (nI_eq (by omega) (by omega)).mp e3; omega
              refine lv_aload_n hx hb dX10_number_65 rfl (lv_at hl 0 rfl) ?_
              refine lv_iload hx hb dX10_number_66 (lv_at hl 4 rfl) ?_
              refine m_callV (n := 1) (As := [.int (sSg s r 63)]) (rest := []) (st1 := .int 0 :: []) S hG hL (c_X10_wrong hlv (sSg s r 63) (upd (sSg s r) 63 x) r ) gX10_number_X10_wrong rfl (by decide +kernel) ⟨Nat.le_of_ble_eq_true rfl, Nat.le_of_ble_eq_true rfl⟩ rfl hl.1 rfl (Nat.le_of_ble_eq_true rfl) dX10_number_68 ⟨Nat.zero_le _, Nat.zero_le _⟩ (rfl) (fun H locs hG hL => ?_)
              exact m_zret S hr hlocks (by decide) hG hL dX10_number_71 (by have q : nmb s r = (false, k, v) := (by rw [← hF]; simp only [nmR, eq_false h1, eq_false h2, eq_true h3, ↓reduceIte]); simp only [okN, eq_false c7, q,  il1, reduceCtorEq, ↓reduceIte]; try rw [ex]; try rfl) (by have q : nmb s r = (false, k, v) := (by rw [← hF]; simp only [nmR, eq_false h1, eq_false h2, eq_true h3, ↓reduceIte]); simp only [okN, sN, eq_false c7, q,  il1, reduceCtorEq, ↓reduceIte]; try rw [ex]; try rfl) (by have q : nmb s r = (false, k, v) := (by rw [← hF]; simp only [nmR, eq_false h1, eq_false h2, eq_true h3, ↓reduceIte]); simp only [okN, rN, eq_false c7, q,  il1, reduceCtorEq, ↓reduceIte]; try rw [ex]; try rfl)
    have hG := mW_id 63 hG; have hA := aSg_le (r := r) hB; have hE := tB_e hB
    exact LP 5 (aSg s r) ((sSg s r) 63) 0 (rfl) (by omega) (by omega) (rfl) _ _ hG hL _ (lv_sub hl [2, 3, 4, 5, 1, 0] rfl)
  ·
    refine lv_aload_n hx hb dX10_number_10 rfl (lv_at hl 0 rfl) ?_
    refine lv_aload_n hx hb dX10_number_11 rfl (lv_at hl 0 rfl) ?_
    refine m_gi (v := (sSg s r) 63) S hG 63 rfl (hts (.fieldLink RX10 238 "SwarmLineModel" "at" "I") (by decide +kernel)) dX10_number_12 rfl ?_
    refine m_callV (n := 1) (As := [.int ((sSg s r) 63)]) (rest := []) (st1 := .int 0 :: []) S hG hL (c_X10_wrong hlv ((sSg s r) 63) (sSg s r) r ) gX10_number_X10_wrong rfl (by decide +kernel) ⟨Nat.le_of_ble_eq_true rfl, Nat.le_of_ble_eq_true rfl⟩ rfl hl.1 rfl (Nat.le_of_ble_eq_true rfl) dX10_number_15 ⟨Nat.zero_le _, Nat.zero_le _⟩ (rfl) (fun H locs hG hL => ?_)
    exact m_zret S hr hlocks (by decide) hG hL dX10_number_18 (by simp only [okN, eq_true c7, ↓reduceIte]; try rfl) (by simp only [okN, sN, eq_true c7, ↓reduceIte]; try rfl) (by simp only [okN, rN, eq_true c7, ↓reduceIte]; try rfl)
