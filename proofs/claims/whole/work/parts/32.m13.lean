theorem fb_holes : ∀ (m n : Nat) (f : Nat → Nat), (∀ i, i < n → f i < m) → (∀ i j, i < j → j < n → f i ≠ f j) → n ≤ m := by
  intro m
  induction m with
  | zero =>
    intro n f h1 _
    rcases Nat.eq_zero_or_pos n with h | h
    · omega
    · exact absurd (h1 0 h) (Nat.not_lt_zero _)
  | succ m ih =>
    intro n f h1 h2
    by_cases hx : ∃ i, i < n ∧ f i = m
    · obtain ⟨a, ha, hfa⟩ := hx
      have hg := ih (n - 1) (fun i => if i < a then f i else f (i + 1)) (by
        intro i hi
        by_cases q : i < a
        · simp only [if_pos q]
          have b1 := h1 i (by omega)
          have b2 := h2 i a q ha
          omega
        · simp only [if_neg q]
          have b1 := h1 (i + 1) (by omega)
          have b2 := h2 a (i + 1) (by omega) (by omega)
          omega) (by
        intro i j hij hj
        by_cases q : i < a
        · by_cases r : j < a
          · simp only [if_pos q, if_pos r]
            exact h2 i j hij (by omega)
          · simp only [if_pos q, if_neg r]
            exact h2 i (j + 1) (by omega) (by omega)
        · have r : ¬ j < a := by omega
          simp only [if_neg q, if_neg r]
          exact h2 (i + 1) (j + 1) (by omega) (by omega))
      omega
    · have hg := ih n f (fun i hi => by
        have b1 := h1 i hi
        have b2 : f i ≠ m := fun e => hx ⟨i, hi, e⟩
        omega) h2
      omega
/-! a line of the turns -/
def dpF (r : Nat → Nat → Int32) (d : Int32) : Nat → Nat → Bool
  | 0, _ => false
  | n + 1, k => if r 54 k = d then true else dpF r d n (k + 1)
def dpK (r : Nat → Nat → Int32) (d : Int32) (b : Nat) : Nat → Nat → Bool
  | 0, _ => false
  | n + 1, i => if r 56 (b + i) = d then true else dpK r d b n (i + 1)
def rlV (s : Nat → Int32) (r : Nat → Nat → Int32) : Int32 := okN 0 (s 26 - 1) (sSg s r) r
def rlS (s : Nat → Int32) (r : Nat → Nat → Int32) : Nat → Int32 := sN 0 (s 26 - 1) (sSg s r) r
def rlR (s : Nat → Int32) (r : Nat → Nat → Int32) : Nat → Nat → Int32 := rN 1 0 (s 26 - 1) (sSg s r) r
def rl3 (ln : Nat) (s : Nat → Int32) (r : Nat → Nat → Int32) : Nat → Nat → Int32 := up2 (up2 (rlR s r) 56 (12 * ln + (rlR s r 55 ln).toNatClampNeg) (rlR s r 65 (Int32.toNatClampNeg 1))) 55 ln (rlR s r 55 ln + 1)
def rlD (ln : Nat) : Nat → (Nat → Int32) → (Nat → Nat → Int32) → FX
  | 0, s, r => (0, s, r)
  | n + 1, s, r => if rlV s r = 0 then (0, rlS s r, rlR s r) else if dpK (rlR s r) (rlR s r 65 (Int32.toNatClampNeg 1)) (12 * ln) (rlR s r 55 ln).toNatClampNeg 0 = true then wrX (sSg s r 63) (rlS s r) (rlR s r) else if fDi (vSg (rlS s r) (rl3 ln s r)) = 0 then (1, sSg (rlS s r) (rl3 ln s r), rl3 ln s r) else rlD ln n (sSg (rlS s r) (rl3 ln s r)) (rl3 ln s r)
def rl1 (ln : Nat) (r : Nat → Nat → Int32) : Nat → Nat → Int32 := up2 (up2 r 54 ln (r 65 (Int32.toNatClampNeg 0))) 55 ln 0
def rlC (ln : Nat) (s : Nat → Int32) (r : Nat → Nat → Int32) : FX := if vSg s r = 58 then rlD ln 13 (upd (sSg s r) 63 (sSg s r 63 + 1)) r else wrX (nI (aSg s r)) (sSg s r) r
def rlB (ln : Nat) (pl : Int32) (s : Nat → Int32) (r : Nat → Nat → Int32) : FX := if dpF r (r 65 (Int32.toNatClampNeg 0)) (ln - 10) 10 = true then wrX pl s r else rlC ln s (rl1 ln r)
def rl0 (r : Nat → Nat → Int32) : Nat → Nat → Int32 := up2 r 65 (Int32.toNatClampNeg 0) 16
def s2L (s : Nat → Int32) (r : Nat → Nat → Int32) : Nat → Int32 := upd (sSg s r) 63 (nI (aWe (sSg s r) r))
def rlI (ln : Nat) (s : Nat → Int32) (r : Nat → Nat → Int32) : FX := if okN 0 15 (sSg s r) r = 0 then (0, sN 0 15 (sSg s r) r, rN 0 0 15 (sSg s r) r) else rlB ln (sSg s r 63) (sN 0 15 (sSg s r) r) (rN 0 0 15 (sSg s r) r)
def rlA (ln : Nat) (s : Nat → Int32) (r : Nat → Nat → Int32) : FX := if fIw 1701606245 s r = 0 then (if fIw 26990 s r = 0 then wrX (nI (aSg s r)) (sSg s r) r else rlI ln (s2L s r) (rl0 r)) else rlB ln (nI (aSg s r)) (s2L s r) (rl0 r)
theorem tOn_2L {s : Nat → Int32} {r : Nat → Nat → Int32} (h : tB s) : tOn s (s2L s r) := by
  have q := aWe_le (r := r) (tB_sg (r := r) h)
  have q1 := aSg_le (r := r) h
  have q2 := tB_e h
  rw [sSg_63, ix_nI (by omega)] at q
  have e : s2L s r = upd s 63 (nI (aWe (sSg s r) r)) := upd_tw ..
  rw [e]
  exact tOn_at h q.1 (by have := aSg_ge s r; omega)
theorem tOn_S {s : Nat → Int32} {r : Nat → Nat → Int32} (h : tB s) : tOn s (rlS s r) := (tOn_sg h).trans (tOn_N _ _ (tB_sg h))
/-- what a line that is being read holds: keepers that are there, each once -/
def lnI (ln nk : Nat) (r : Nat → Nat → Int32) : Prop := 0 ≤ (r 55 ln).toInt ∧ (∀ i, i < (r 55 ln).toNatClampNeg → 0 ≤ (r 56 (12 * ln + i)).toInt ∧ (r 56 (12 * ln + i)).toInt < nk) ∧ ∀ i j, i < j → j < (r 55 ln).toNatClampNeg → ¬ r 56 (12 * ln + i) = r 56 (12 * ln + j)
theorem lnI_0 (ln nk : Nat) (r : Nat → Nat → Int32) : lnI ln nk (rl1 ln r) := by
  have e : rl1 ln r 55 ln = 0 := up2_ss ..
  have e2 : Int32.toNatClampNeg 0 = 0 := rfl
  refine ⟨?_, fun i hi => ?_, fun i j _ hj => ?_⟩
  · rw [e]; decide
  · rw [e, e2] at hi; omega
  · rw [e, e2] at hj; omega
theorem lnI_le {ln nk : Nat} {r : Nat → Nat → Int32} (h : lnI ln nk r) : (r 55 ln).toNatClampNeg ≤ nk := by
  refine fb_holes nk _ (fun i => (r 56 (12 * ln + i)).toNatClampNeg) (fun i hi => ?_) (fun i j hij hj e => ?_)
  · have q := h.2.1 i hi
    have e := t_ix q.1
    show (r 56 (12 * ln + i)).toNatClampNeg < nk
    omega
  · have a := (h.2.1 i (by omega)).1
    have b := (h.2.1 j hj).1
    exact h.2.2 i j hij hj (by rw [← t_ixn a, ← t_ixn b]; exact congrArg nI e)
theorem dpK_no {r : Nat → Nat → Int32} {d : Int32} {b : Nat} : ∀ {n i : Nat}, dpK r d b n i = false → ∀ k, i ≤ k → k < i + n → ¬ r 56 (b + k) = d
  | 0, i, _, k, h1, h2 => by omega
  | n + 1, i, h, k, h1, h2 => by
    unfold dpK at h
    split at h
    · cases h
    · rename_i q
      by_cases e : k = i
      · rw [e]; exact q
      · exact dpK_no h k (by omega) (by omega)
theorem okN_rng {lo hi : Int32} {s : Nat → Int32} {r : Nat → Nat → Int32} (h : ¬ okN lo hi s r = 0) : lo.toInt ≤ (nmb s r).2.2.toInt ∧ (nmb s r).2.2.toInt ≤ hi.toInt := by
  unfold okN at h
  split at h
  · exact absurd rfl h
  · split at h
    · split at h
      · exact absurd rfl h
      · split at h
        · rename_i a b; rw [t_lt] at a; rw [t_le] at b; omega
        · exact absurd rfl h
    · exact absurd rfl h
theorem rlR_n {f : Nat} (hf : ¬ f = 65) (s : Nat → Int32) (r : Nat → Nat → Int32) : rlR s r f = r f := rN_60 hf ..
theorem rlR_65 {s : Nat → Int32} {r : Nat → Nat → Int32} (h : ¬ rlV s r = 0) : rlR s r 65 (Int32.toNatClampNeg 1) = (nmb (sSg s r) r).2.2 := by
  have h2 : ¬ okN 0 (s 26 - 1) (sSg s r) r = 0 := h
  unfold rlR rN
  rw [if_neg h2]
  exact up2_ss ..
theorem lnI_3 {ln nk : Nat} {s : Nat → Int32} {r : Nat → Nat → Int32} (h : lnI ln nk r) (hs : (s 26).toInt = nk) (hk : nk ≤ 12) (hv : ¬ rlV s r = 0) (hd : dpK (rlR s r) (rlR s r 65 (Int32.toNatClampNeg 1)) (12 * ln) (rlR s r 55 ln).toNatClampNeg 0 = false) : lnI ln nk (rl3 ln s r) ∧ (r 55 ln).toNatClampNeg < nk ∧ (rl3 ln s r 55 ln).toNatClampNeg = (r 55 ln).toNatClampNeg + 1 := by
  have e55 : rlR s r 55 = r 55 := rlR_n (by decide) ..
  have e56 : rlR s r 56 = r 56 := rlR_n (by decide) ..
  have hle := lnI_le h
  have h0 := h.1
  have ei := t_ix h0
  have f1 : rl3 ln s r 55 ln = r 55 ln + 1 := by
    refine (up2_ss _ _ _ _).trans ?_
    rw [e55]
  have f2 : (rl3 ln s r 55 ln).toInt = (r 55 ln).toInt + 1 := by
    rw [f1, t_add (by rw [t_1]; omega) (by rw [t_1]; omega), t_1]
  have f3 : (rl3 ln s r 55 ln).toNatClampNeg = (r 55 ln).toNatClampNeg + 1 := by
    have := t_ix (show 0 ≤ (rl3 ln s r 55 ln).toInt by omega)
    omega
  have g : ∀ i, rl3 ln s r 56 (12 * ln + i) = if i = (r 55 ln).toNatClampNeg then (nmb (sSg s r) r).2.2 else r 56 (12 * ln + i) := by
    intro i
    have q : rl3 ln s r 56 = up2 (rlR s r) 56 (12 * ln + (rlR s r 55 ln).toNatClampNeg) (rlR s r 65 (Int32.toNatClampNeg 1)) 56 := up2_nn _ _ _ (by decide)
    rw [q, rlR_65 hv, e55]
    by_cases e : i = (r 55 ln).toNatClampNeg
    · rw [if_pos e, e]; exact up2_ss ..
    · rw [if_neg e, up2_sn _ _ _ (by omega), e56]
  have hr := okN_rng hv
  have hnk : (s 26 - 1).toInt = nk - 1 := by rw [t_sub (by rw [t_1]; omega) (by rw [t_1]; omega), t_1]; omega
  rw [t_0, hnk] at hr
  rw [e55] at hd
  have hd2 := dpK_no hd
  have main : lnI ln nk (rl3 ln s r) := by
    refine ⟨by omega, fun i hi => ?_, fun i j hij hj => ?_⟩
    · rw [g]
      split
      · omega
      · exact h.2.1 i (by omega)
    · rw [g, g]
      by_cases e : j = (r 55 ln).toNatClampNeg
      · rw [if_pos e, if_neg (by omega)]
        have := hd2 i (by omega) (by omega)
        rw [e56, rlR_65 hv] at this
        exact this
      · rw [if_neg e, if_neg (by omega)]
        exact h.2.2 i j hij (by omega)
  refine ⟨main, ?_, f3⟩
  have := lnI_le main
  omega
theorem rl_lw {lw : Int32} (h : 10 ≤ lw.toInt ∧ lw.toInt < 20) : vp_in lw 20 ∧ 10 ≤ Int32.toNatClampNeg lw ∧ Int32.toNatClampNeg lw < 20 ∧ lw = nI (Int32.toNatClampNeg lw) := by
  have e := t_ix (show 0 ≤ lw.toInt by omega)
  exact ⟨vp_in_t (by omega) (by omega), by omega, by omega, (t_ixn (by omega)).symm⟩
set_option maxHeartbeats 4000000 in
set_option maxRecDepth 100000 in
theorem c_X10_readLine {l : Launch} {D : va_G} {cI cZ cB cO cR cJ : ClassId} {Hb : Heap} {lv : Nat → Prop} {ad : Nat → Nat} {ce0 : Nat → va_E} (hlv : lM lv) (lw : Int32) (s : Nat → Int32) (r : Nat → Nat → Int32) (nk : Nat) (hB : tB s) (hlz : 10 ≤ lw.toInt ∧ lw.toInt < 20) (hk26 : (s 26).toInt = nk) (hk12 : nk ≤ 12) : mMet l D cI cZ cB cO cR cJ Hb lv ad ce0 yX10_readLine wsX10_readLine 3 68 [.ref (ad 0), .int lw] s r (some (.int ((rlA (Int32.toNatClampNeg lw) s r).1))) ((rlA (Int32.toNatClampNeg lw) s r).2.1) ((rlA (Int32.toNatClampNeg lw) s r).2.2) := by
  refine Met.ofW (cc := cX10_readLine) (maxL := 9) (ret := (some .boolean)) (by decide) rfl ?_
  intro p0 e0 s0 m0 args below meth c0 s₁ B hml hv
  obtain ⟨rfl, hG, hK⟩ := hv
  have hx := B.exec
  have hb := B.bytes
  have hr := B.returns
  have hts := atoms_spec (ws := wsX10_readLine) B.pre
  have hown : s0.vm.findClass RX10 = some m0.cls := findClass_of_methodNamed B.named
  have hlocks := B.notSynchronized
  have S : mX p0 m0 c0 cX10_readLine 9 s0 _ wsX10_readLine D cI cZ cB cO cR cJ lv := ⟨⟨hx, hb, hml, hown, hts⟩, hK, fun w h => List.mem_cons_of_mem _ (List.mem_append_right _ h), hlv⟩
  have hL : gL Hb [] := gL.nil
  have hl := lv_entry ([.ref (ad 0), .int lw]) (n := 9) (Nat.le_of_ble_eq_true rfl)
  rw [lg_entry_eq]
  generalize (lg_sl ([.ref (ad 0), .int lw]) ++ List.replicate (9 - (lg_sl ([.ref (ad 0), .int lw])).length) Slot.unset).toArray = ls at hl ⊢
  have hl : lv_has ls 9 [(0, .ref (ad 0)), (1, .int lw)] := hl
  have hlw := rl_lw hlz
  refine lv_aload_n hx hb dX10_readLine_0 rfl (lv_at hl 0 rfl) ?_
  refine lv_ldc2 (v := 1701606245) hx hb hown (hts (.constantLong RX10 296 1701606245) (by decide +kernel)) dX10_readLine_1 ?_
  refine m_callV (n := 1) (As := [.long 1701606245]) (rest := []) (st1 := .int (fIw 1701606245 s r) :: []) S hG hL (c_X10_isWord hlv 1701606245 s r (hB)) gX10_readLine_X10_isWord rfl (by decide +kernel) ⟨Nat.le_of_ble_eq_true rfl, Nat.le_of_ble_eq_true rfl⟩ rfl hl.1 rfl (Nat.le_of_ble_eq_true rfl) dX10_readLine_4 ⟨Nat.zero_le _, Nat.zero_le _⟩ (rfl) (fun H locs hG hL => ?_)
  refine lv_istore_n (lv' := [(2, .int (fIw 1701606245 s r)), (0, .ref (ad 0)), (1, .int lw)]) hx hb dX10_readLine_7 rfl hl (by decide) rfl (fun ls hl => ?_)
  have LA : ∀ (pl : Int32) (sv : Nat → Int32) (rv : Nat → Nat → Int32) (hO : tOn s sv) (hX : rlA (Int32.toNatClampNeg lw) s r = rlB (Int32.toNatClampNeg lw) pl sv rv), ∀ (H : Heap) (locs : List Loc), gW D Hb lv ad (mJ ce0 ad cI cZ sv rv) H → gL Hb locs → ∀ (ls : Array Slot), lv_has ls 9 [(0, .ref (ad 0)), (1, .int lw), (4, .int pl)] → W p0 l e0 (headSpec wsX10_readLine { frames := 3, cells := 0, slots := 0, locals := 68 }).room s0 m0 ([.ref (ad 0), .int lw] : List Value).toArray below meth c0 H locs 0 0 (MQ below (gQ D Hb lv ad (some (.int ((rlA (Int32.toNatClampNeg lw) s r).1))) (mJ ce0 ad cI cZ ((rlA (Int32.toNatClampNeg lw) s r).2.1) ((rlA (Int32.toNatClampNeg lw) s r).2.2))) ([.ref (ad 0), .int lw] : List Value).toArray s0 0 0 (gA Hb)) (F0 m0 84 ls []) := by
    intro pl sv rv hO hX H locs hG hL ls hl
    refine lv_bipush (v := 10) hx hb dX10_readLine_84 (by decide) ?_
    refine lv_istore (lv' := [(5, .int 10), (0, .ref (ad 0)), (1, .int lw), (4, .int pl)]) hx hb dX10_readLine_86 hl (by decide) rfl (fun ls hl => ?_)
    have LK : ∀ (n : Nat) (k : Nat) (x : Int32) (ex : x = nI k) (hk : 10 ≤ k ∧ k ≤ Int32.toNatClampNeg lw) (hn : Int32.toNatClampNeg lw + 1 ≤ k + n) (hD : dpF rv (rv 65 (Int32.toNatClampNeg 0)) (Int32.toNatClampNeg lw - k) k = dpF rv (rv 65 (Int32.toNatClampNeg 0)) (Int32.toNatClampNeg lw - 10) 10), ∀ (H : Heap) (locs : List Loc), gW D Hb lv ad (mJ ce0 ad cI cZ sv rv) H → gL Hb locs → ∀ (ls : Array Slot), lv_has ls 9 [(0, .ref (ad 0)), (1, .int lw), (4, .int pl), (5, .int x)] → W p0 l e0 (headSpec wsX10_readLine { frames := 3, cells := 0, slots := 0, locals := 68 }).room s0 m0 ([.ref (ad 0), .int lw] : List Value).toArray below meth c0 H locs 0 0 (MQ below (gQ D Hb lv ad (some (.int ((rlA (Int32.toNatClampNeg lw) s r).1))) (mJ ce0 ad cI cZ ((rlA (Int32.toNatClampNeg lw) s r).2.1) ((rlA (Int32.toNatClampNeg lw) s r).2.2))) ([.ref (ad 0), .int lw] : List Value).toArray s0 0 0 (gA Hb)) (F0 m0 88 ls []) := by
      intro n
      induction n with
      | zero => intro k x ex hk hn hD; exact absurd hn (by omega)
      | succ n ih =>
        intro k x ex hk hn hD H locs hG hL ls hl
        have hii : Int32.toNatClampNeg x = k := by rw [ex]; exact ix_nI (by omega)
        refine lv_iload hx hb dX10_readLine_88 (lv_at hl 3 rfl) ?_
        refine lv_iload_n hx hb dX10_readLine_90 rfl (lv_at hl 1 rfl) ?_
        refine lv_icmp_ge (tgt := 123) hx hb dX10_readLine_91 (by decide) (fun c91 => ?_) (fun c91 => ?_)
        ·
          have hEq : k = Int32.toNatClampNeg lw := by { have := (nle (by omega) (by omega)).mp (ex ▸ hlw.2.2.2 ▸ c91 : nI (Int32.toNatClampNeg lw) ≤ nI k); omega }; have hdp : dpF rv (rv 65 (Int32.toNatClampNeg 0)) (Int32.toNatClampNeg lw - 10) 10 = false := by { rw [← hD, hEq, Nat.sub_self]; rfl }
          refine lv_aload_n hx hb dX10_readLine_123 rfl (lv_at hl 0 rfl) ?_
          refine m_ga S hG 54 rfl (hts (.fieldLink RX10 146 "SwarmLineModel" "lineDistrict" "[I") (by decide +kernel)) dX10_readLine_124 ?_
          refine lv_iload_n hx hb dX10_readLine_127 rfl (lv_at hl 1 rfl) ?_
          refine lv_aload_n hx hb dX10_readLine_128 rfl (lv_at hl 0 rfl) ?_
          refine m_ga S hG 65 rfl (hts (.fieldLink RX10 168 "SwarmLineModel" "fact" "[I") (by decide +kernel)) dX10_readLine_129 ?_
          refine lv_iconst (v := 0) hx hb dX10_readLine_132 (by decide) ?_
          refine m_ld (v := rv 65 (Int32.toNatClampNeg 0)) S hG 65 rfl (show vp_in 0 6 from vp_in_t (by decide) (by decide)) dX10_readLine_133 (rfl) ?_
          refine m_st S hG hL 54 rfl (show vp_in lw 20 from hlw.1) dX10_readLine_134 (fun H locs hG hL => ?_)
          refine lv_aload_n hx hb dX10_readLine_135 rfl (lv_at hl 0 rfl) ?_
          refine m_ga S hG 55 rfl (hts (.fieldLink RX10 149 "SwarmLineModel" "lineMany" "[I") (by decide +kernel)) dX10_readLine_136 ?_
          refine lv_iload_n hx hb dX10_readLine_139 rfl (lv_at hl 1 rfl) ?_
          refine lv_iconst (v := 0) hx hb dX10_readLine_140 (by decide) ?_
          refine m_st S hG hL 55 rfl (show vp_in lw 20 from hlw.1) dX10_readLine_141 (fun H locs hG hL => ?_)
          have hG : gW D Hb lv ad (mJ ce0 ad cI cZ sv (rl1 (Int32.toNatClampNeg lw) rv)) H := hG
          refine lv_aload_n hx hb dX10_readLine_142 rfl (lv_at hl 0 rfl) ?_
          refine m_callV (n := 0) (As := []) (rest := []) (st1 := .int (vSg sv (rl1 (Int32.toNatClampNeg lw) rv)) :: []) S hG hL (c_X10_sign hlv  sv (rl1 (Int32.toNatClampNeg lw) rv) (hO.2.1)) gX10_readLine_X10_sign rfl (by decide +kernel) ⟨Nat.le_of_ble_eq_true rfl, Nat.le_of_ble_eq_true rfl⟩ rfl hl.1 rfl (Nat.le_of_ble_eq_true rfl) dX10_readLine_143 ⟨Nat.zero_le _, Nat.zero_le _⟩ (rfl) (fun H locs hG hL => ?_)
          refine lv_bipush (v := 58) hx hb dX10_readLine_146 (by decide) ?_
          refine lv_icmp_eq (tgt := 160) hx hb dX10_readLine_148 (by decide) (fun c148 => ?_) (fun c148 => ?_)
          ·
            refine lv_aload_n hx hb dX10_readLine_160 rfl (lv_at hl 0 rfl) ?_
            refine lv_dup hx hb dX10_readLine_161 rfl ?_
            refine m_gi (v := (sSg sv (rl1 (Int32.toNatClampNeg lw) rv)) 63) S hG 63 rfl (hts (.fieldLink RX10 238 "SwarmLineModel" "at" "I") (by decide +kernel)) dX10_readLine_162 rfl ?_
            refine lv_iconst (v := 1) hx hb dX10_readLine_165 (by decide) ?_
            refine lv_iadd hx hb dX10_readLine_166 ?_
            refine m_pi S hG hL 63 rfl (hts (.fieldLink RX10 238 "SwarmLineModel" "at" "I") (by decide +kernel)) dX10_readLine_167 (fun H locs hG hL => ?_)
            refine lv_iconst (v := 1) hx hb dX10_readLine_170 (by decide) ?_
            refine lv_istore (lv' := [(5, .int 1), (0, .ref (ad 0)), (1, .int lw), (4, .int pl)]) hx hb dX10_readLine_171 hl (by decide) rfl (fun ls hl => ?_)
            refine lv_iload hx hb dX10_readLine_173 (lv_at hl 0 rfl) ?_
            refine lv_if_eq (tgt := 299) hx hb dX10_readLine_175 (by decide) (fun c => absurd c (by decide)) (fun _ => ?_)
            have LD : ∀ (n : Nat) (sw : Nat → Int32) (rw_ : Nat → Nat → Int32) (hO2 : tOn s sw) (hI : lnI (Int32.toNatClampNeg lw) nk rw_) (hn : 13 ≤ (rw_ 55 (Int32.toNatClampNeg lw)).toNatClampNeg + n) (hF : rlD (Int32.toNatClampNeg lw) n sw rw_ = rlA (Int32.toNatClampNeg lw) s r), ∀ (H : Heap) (locs : List Loc), gW D Hb lv ad (mJ ce0 ad cI cZ sw rw_) H → gL Hb locs → ∀ (ls : Array Slot), lv_has ls 9 [(0, .ref (ad 0)), (1, .int lw)] → W p0 l e0 (headSpec wsX10_readLine { frames := 3, cells := 0, slots := 0, locals := 68 }).room s0 m0 ([.ref (ad 0), .int lw] : List Value).toArray below meth c0 H locs 0 0 (MQ below (gQ D Hb lv ad (some (.int ((rlA (Int32.toNatClampNeg lw) s r).1))) (mJ ce0 ad cI cZ ((rlA (Int32.toNatClampNeg lw) s r).2.1) ((rlA (Int32.toNatClampNeg lw) s r).2.2))) ([.ref (ad 0), .int lw] : List Value).toArray s0 0 0 (gA Hb)) (F0 m0 178 ls []) := by
              intro n
              induction n with
              | zero => intro sw rw_ hO2 hI hn hF; exact absurd hn (by have := lnI_le hI; omega)
              | succ n ih =>
                intro sw rw_ hO2 hI hn hF H locs hG hL ls hl
                have hle := lnI_le hI; have es : sw 26 = s 26 := hO2.2.2.2.2.1; have e55 : rlR sw rw_ 55 (Int32.toNatClampNeg lw) = rw_ 55 (Int32.toNatClampNeg lw) := congrFun (rlR_n (by decide) ..) _; have g0 : 0 ≤ (rlR sw rw_ 55 (Int32.toNatClampNeg lw)).toInt := by { rw [e55]; exact hI.1 }
                refine lv_aload_n hx hb dX10_readLine_178 rfl (lv_at hl 0 rfl) ?_
                refine m_callV (n := 0) (As := []) (rest := []) (st1 := .int (vSg sw rw_) :: []) S hG hL (c_X10_sign hlv  sw rw_ (hO2.2.1)) gX10_readLine_X10_sign rfl (by decide +kernel) ⟨Nat.le_of_ble_eq_true rfl, Nat.le_of_ble_eq_true rfl⟩ rfl hl.1 rfl (Nat.le_of_ble_eq_true rfl) dX10_readLine_179 ⟨Nat.zero_le _, Nat.zero_le _⟩ (rfl) (fun H locs hG hL => ?_)
                refine lv_istore (lv' := [(6, .int (vSg sw rw_)), (0, .ref (ad 0)), (1, .int lw)]) hx hb dX10_readLine_182 hl (by decide) rfl (fun ls hl => ?_)
                refine lv_aload_n hx hb dX10_readLine_184 rfl (lv_at hl 1 rfl) ?_
                refine m_gi (v := (sSg sw rw_) 63) S hG 63 rfl (hts (.fieldLink RX10 238 "SwarmLineModel" "at" "I") (by decide +kernel)) dX10_readLine_185 rfl ?_
                refine lv_istore (lv' := [(7, .int ((sSg sw rw_) 63)), (6, .int (vSg sw rw_)), (0, .ref (ad 0)), (1, .int lw)]) hx hb dX10_readLine_188 hl (by decide) rfl (fun ls hl => ?_)
                refine lv_aload_n hx hb dX10_readLine_190 rfl (lv_at hl 2 rfl) ?_
                refine lv_iconst (v := 1) hx hb dX10_readLine_191 (by decide) ?_
                refine lv_iconst (v := 0) hx hb dX10_readLine_192 (by decide) ?_
                refine lv_aload_n hx hb dX10_readLine_193 rfl (lv_at hl 2 rfl) ?_
                refine m_gi (v := (sSg sw rw_) 26) S hG 26 rfl (hts (.fieldLink RX10 189 "SwarmLineModel" "keepers" "I") (by decide +kernel)) dX10_readLine_194 rfl ?_
                refine lv_iconst (v := 1) hx hb dX10_readLine_197 (by decide) ?_
                refine lv_isub hx hb dX10_readLine_198 ?_
                refine m_callV (n := 3) (As := [.int 1, .int 0, .int (((sSg sw rw_) 26) - 1)]) (rest := []) (st1 := .int (rlV sw rw_) :: []) S hG hL (c_X10_number hlv 1 0 (((sSg sw rw_) 26) - 1) (sSg sw rw_) rw_ (tB_sg hO2.2.1) (vp_in_t (by decide) (by decide))) gX10_readLine_X10_number rfl (by decide +kernel) ⟨Nat.le_of_ble_eq_true rfl, Nat.le_of_ble_eq_true rfl⟩ rfl hl.1 rfl (Nat.le_of_ble_eq_true rfl) dX10_readLine_199 ⟨Nat.zero_le _, Nat.zero_le _⟩ (rfl) (fun H locs hG hL => ?_)
                have hG : gW D Hb lv ad (mJ ce0 ad cI cZ (rlS sw rw_) (rlR sw rw_)) H := hG
                refine lv_if_ne (tgt := 207) hx hb dX10_readLine_202 (by decide) (fun c202 => ?_) (fun c202 => ?_)
                ·
                  refine lv_iconst (v := 0) hx hb dX10_readLine_207 (by decide) ?_
                  refine lv_istore (lv' := [(8, .int 0), (7, .int ((sSg sw rw_) 63)), (6, .int (vSg sw rw_)), (0, .ref (ad 0)), (1, .int lw)]) hx hb dX10_readLine_208 hl (by decide) rfl (fun ls hl => ?_)
                  have LI : ∀ (m : Nat) (i : Nat) (y : Int32) (ey : y = nI i) (hi : i ≤ ((rlR sw rw_) 55 (Int32.toNatClampNeg lw)).toNatClampNeg) (hm : ((rlR sw rw_) 55 (Int32.toNatClampNeg lw)).toNatClampNeg + 1 ≤ i + m) (hD2 : dpK (rlR sw rw_) (rlR sw rw_ 65 (Int32.toNatClampNeg 1)) (12 * Int32.toNatClampNeg lw) (((rlR sw rw_) 55 (Int32.toNatClampNeg lw)).toNatClampNeg - i) i = dpK (rlR sw rw_) (rlR sw rw_ 65 (Int32.toNatClampNeg 1)) (12 * Int32.toNatClampNeg lw) ((rlR sw rw_) 55 (Int32.toNatClampNeg lw)).toNatClampNeg 0), ∀ (H : Heap) (locs : List Loc), gW D Hb lv ad (mJ ce0 ad cI cZ (rlS sw rw_) (rlR sw rw_)) H → gL Hb locs → ∀ (ls : Array Slot), lv_has ls 9 [(0, .ref (ad 0)), (1, .int lw), (7, .int ((sSg sw rw_) 63)), (8, .int y)] → W p0 l e0 (headSpec wsX10_readLine { frames := 3, cells := 0, slots := 0, locals := 68 }).room s0 m0 ([.ref (ad 0), .int lw] : List Value).toArray below meth c0 H locs 0 0 (MQ below (gQ D Hb lv ad (some (.int ((rlA (Int32.toNatClampNeg lw) s r).1))) (mJ ce0 ad cI cZ ((rlA (Int32.toNatClampNeg lw) s r).2.1) ((rlA (Int32.toNatClampNeg lw) s r).2.2))) ([.ref (ad 0), .int lw] : List Value).toArray s0 0 0 (gA Hb)) (F0 m0 210 ls []) := by
                    intro m
                    induction m with
                    | zero => intro i y ey hi hm hD2; exact absurd hm (by omega)
                    | succ m ihm =>
                      intro i y ey hi hm hD2 H locs hG hL ls hl
                      have hle2 : ((rlR sw rw_) 55 (Int32.toNatClampNeg lw)).toNatClampNeg ≤ 12 := by { rw [e55]; omega }; have hix : Int32.toNatClampNeg (12 * lw + y) = 12 * Int32.toNatClampNeg lw + i := by { rw [sd_ix hlw.2.2.2 ey (by omega) (by omega)]; exact ix_nI (by omega) }
                      refine lv_iload hx hb dX10_readLine_210 (lv_at hl 3 rfl) ?_
                      refine lv_aload_n hx hb dX10_readLine_212 rfl (lv_at hl 0 rfl) ?_
                      refine m_ga S hG 55 rfl (hts (.fieldLink RX10 149 "SwarmLineModel" "lineMany" "[I") (by decide +kernel)) dX10_readLine_213 ?_
                      refine lv_iload_n hx hb dX10_readLine_216 rfl (lv_at hl 1 rfl) ?_
                      refine m_ld (v := (rlR sw rw_) 55 (Int32.toNatClampNeg lw)) S hG 55 rfl (show vp_in lw 20 from hlw.1) dX10_readLine_217 (rfl) ?_
                      refine lv_icmp_ge (tgt := 255) hx hb dX10_readLine_218 (by decide) (fun c218 => ?_) (fun c218 => ?_)
                      ·
                        have hEq2 := cl_ge g0 hi (ey ▸ c218); have hdk : dpK (rlR sw rw_) (rlR sw rw_ 65 (Int32.toNatClampNeg 1)) (12 * Int32.toNatClampNeg lw) ((rlR sw rw_) 55 (Int32.toNatClampNeg lw)).toNatClampNeg 0 = false := by { rw [← hD2, hEq2, Nat.sub_self]; rfl }; have hl3 := lnI_3 hI (by rw [es]; exact hk26) hk12 c202 hdk; have hix2 : Int32.toNatClampNeg (12 * lw + ((rlR sw rw_) 55 (Int32.toNatClampNeg lw))) = 12 * Int32.toNatClampNeg lw + ((rlR sw rw_) 55 (Int32.toNatClampNeg lw)).toNatClampNeg := by { rw [sd_ix hlw.2.2.2 (t_ixn g0).symm (by omega) (by omega)]; exact ix_nI (by omega) }
                        refine lv_aload_n hx hb dX10_readLine_255 rfl (lv_at hl 0 rfl) ?_
                        refine m_ga S hG 56 rfl (hts (.fieldLink RX10 152 "SwarmLineModel" "lineKeeper" "[I") (by decide +kernel)) dX10_readLine_256 ?_
                        refine lv_bipush (v := 12) hx hb dX10_readLine_259 (by decide) ?_
                        refine lv_iload_n hx hb dX10_readLine_261 rfl (lv_at hl 1 rfl) ?_
                        refine lv_imul hx hb dX10_readLine_262 ?_
                        refine lv_aload_n hx hb dX10_readLine_263 rfl (lv_at hl 0 rfl) ?_
                        refine m_ga S hG 55 rfl (hts (.fieldLink RX10 149 "SwarmLineModel" "lineMany" "[I") (by decide +kernel)) dX10_readLine_264 ?_
                        refine lv_iload_n hx hb dX10_readLine_267 rfl (lv_at hl 1 rfl) ?_
                        refine m_ld (v := (rlR sw rw_) 55 (Int32.toNatClampNeg lw)) S hG 55 rfl (show vp_in lw 20 from hlw.1) dX10_readLine_268 (rfl) ?_
                        refine lv_iadd hx hb dX10_readLine_269 ?_
                        refine lv_aload_n hx hb dX10_readLine_270 rfl (lv_at hl 0 rfl) ?_
                        refine m_ga S hG 65 rfl (hts (.fieldLink RX10 168 "SwarmLineModel" "fact" "[I") (by decide +kernel)) dX10_readLine_271 ?_
                        refine lv_iconst (v := 1) hx hb dX10_readLine_274 (by decide) ?_
                        refine m_ld (v := (rlR sw rw_) 65 (Int32.toNatClampNeg 1)) S hG 65 rfl (show vp_in 1 6 from vp_in_t (by decide) (by decide)) dX10_readLine_275 (rfl) ?_
                        refine m_stj (j := 12 * Int32.toNatClampNeg lw + ((rlR sw rw_) 55 (Int32.toNatClampNeg lw)).toNatClampNeg) S hG hL 56 rfl hix2 (show vp_in ((12 * lw) + ((rlR sw rw_) 55 (Int32.toNatClampNeg lw))) 240 from by rw [sd_ix hlw.2.2.2 (t_ixn g0).symm (by omega) (by omega)]; exact vp_in_i (by have := hl3.2.1; rw [← e55] at this; omega) (by omega)) dX10_readLine_276 (fun H locs hG hL => ?_)
                        refine lv_aload_n hx hb dX10_readLine_277 rfl (lv_at hl 0 rfl) ?_
                        refine m_ga S hG 55 rfl (hts (.fieldLink RX10 149 "SwarmLineModel" "lineMany" "[I") (by decide +kernel)) dX10_readLine_278 ?_
                        refine lv_iload_n hx hb dX10_readLine_281 rfl (lv_at hl 1 rfl) ?_
                        refine lv_dup2_11 hx hb dX10_readLine_282 rfl rfl ?_
                        refine m_ld (v := (rlR sw rw_) 55 (Int32.toNatClampNeg lw)) S hG 55 rfl (show vp_in lw 20 from hlw.1) dX10_readLine_283 ((up2_n _ _ _ _ (by decide)).trans (rfl)) ?_
                        refine lv_iconst (v := 1) hx hb dX10_readLine_284 (by decide) ?_
                        refine lv_iadd hx hb dX10_readLine_285 ?_
                        refine m_st S hG hL 55 rfl (show vp_in lw 20 from hlw.1) dX10_readLine_286 (fun H locs hG hL => ?_)
                        have hG : gW D Hb lv ad (mJ ce0 ad cI cZ (rlS sw rw_) (rl3 (Int32.toNatClampNeg lw) sw rw_)) H := hG
                        refine lv_aload_n hx hb dX10_readLine_287 rfl (lv_at hl 0 rfl) ?_
                        refine m_callV (n := 0) (As := []) (rest := []) (st1 := .int (vSg (rlS sw rw_) (rl3 (Int32.toNatClampNeg lw) sw rw_)) :: []) S hG hL (c_X10_sign hlv  (rlS sw rw_) (rl3 (Int32.toNatClampNeg lw) sw rw_) ((tOn_S hO2.2.1).2.1)) gX10_readLine_X10_sign rfl (by decide +kernel) ⟨Nat.le_of_ble_eq_true rfl, Nat.le_of_ble_eq_true rfl⟩ rfl hl.1 rfl (Nat.le_of_ble_eq_true rfl) dX10_readLine_288 ⟨Nat.zero_le _, Nat.zero_le _⟩ (rfl) (fun H locs hG hL => ?_)
                        refine m_callP (n := 1) (As := [.int (vSg (rlS sw rw_) (rl3 (Int32.toNatClampNeg lw) sw rw_))]) (rest := []) (st1 := .int (fDi (vSg (rlS sw rw_) (rl3 (Int32.toNatClampNeg lw) sw rw_))) :: []) S.1 (c_X10_isDigit (vSg (rlS sw rw_) (rl3 (Int32.toNatClampNeg lw) sw rw_))) gX10_readLine_X10_isDigit rfl (by decide +kernel) ⟨Nat.le_of_ble_eq_true rfl, Nat.le_of_ble_eq_true rfl⟩ rfl hl.1 rfl (Nat.le_of_ble_eq_true rfl) dX10_readLine_291 ⟨Nat.zero_le _, Nat.zero_le _⟩ rfl ?_
                        refine lv_istore (lv' := [(5, .int (fDi (vSg (rlS sw rw_) (rl3 (Int32.toNatClampNeg lw) sw rw_)))), (0, .ref (ad 0)), (1, .int lw), (7, .int ((sSg sw rw_) 63)), (8, .int y)]) hx hb dX10_readLine_294 hl (by decide) rfl (fun ls hl => ?_)
                        refine lv_goto (tgt := 173) hx hb dX10_readLine_296 (by decide) ?_
                        refine lv_iload hx hb dX10_readLine_173 (lv_at hl 0 rfl) ?_
                        refine lv_if_eq (tgt := 299) hx hb dX10_readLine_175 (by decide) (fun c175 => ?_) (fun c175 => ?_)
                        ·
                          refine lv_iconst (v := 1) hx hb dX10_readLine_299 (by decide) ?_
                          exact m_zret S hr hlocks (by decide) hG hL dX10_readLine_300 (by rw [← hF]; simp only [rlD, eq_false c202, hdk, Bool.false_eq_true, eq_true c175, ↓reduceIte]) (by rw [← hF]; simp only [rlD, eq_false c202, hdk, Bool.false_eq_true, eq_true c175, ↓reduceIte]) (by rw [← hF]; simp only [rlD, eq_false c202, hdk, Bool.false_eq_true, eq_true c175, ↓reduceIte])
                        ·
                          exact ih  (sSg (rlS sw rw_) (rl3 (Int32.toNatClampNeg lw) sw rw_)) (rl3 (Int32.toNatClampNeg lw) sw rw_) ((hO2.trans (tOn_S hO2.2.1)).trans (tOn_sg (tOn_S hO2.2.1).2.1)) (hl3.1) (by rw [hl3.2.2]; omega) (by rw [← hF]; simp only [rlD, eq_false c202, hdk, Bool.false_eq_true, eq_false c175, ↓reduceIte]) _ _ hG hL _ (lv_sub hl [1, 2] rfl)
                      ·
                        have hlt := cl_lt g0 hi (ey ▸ c218)
                        refine lv_aload_n hx hb dX10_readLine_221 rfl (lv_at hl 0 rfl) ?_
                        refine m_ga S hG 56 rfl (hts (.fieldLink RX10 152 "SwarmLineModel" "lineKeeper" "[I") (by decide +kernel)) dX10_readLine_222 ?_
                        refine lv_bipush (v := 12) hx hb dX10_readLine_225 (by decide) ?_
                        refine lv_iload_n hx hb dX10_readLine_227 rfl (lv_at hl 1 rfl) ?_
                        refine lv_imul hx hb dX10_readLine_228 ?_
                        refine lv_iload hx hb dX10_readLine_229 (lv_at hl 3 rfl) ?_
                        refine lv_iadd hx hb dX10_readLine_231 ?_
                        refine m_ldj (j := 12 * Int32.toNatClampNeg lw + i) (v := (rlR sw rw_) 56 (12 * Int32.toNatClampNeg lw + i)) S hG 56 rfl hix (show vp_in ((12 * lw) + y) 240 from by rw [sd_ix hlw.2.2.2 ey (by omega) (by omega)]; exact vp_in_i (by omega) (by omega)) dX10_readLine_232 (rfl) ?_
                        refine lv_aload_n hx hb dX10_readLine_233 rfl (lv_at hl 0 rfl) ?_
                        refine m_ga S hG 65 rfl (hts (.fieldLink RX10 168 "SwarmLineModel" "fact" "[I") (by decide +kernel)) dX10_readLine_234 ?_
                        refine lv_iconst (v := 1) hx hb dX10_readLine_237 (by decide) ?_
                        refine m_ld (v := (rlR sw rw_) 65 (Int32.toNatClampNeg 1)) S hG 65 rfl (show vp_in 1 6 from vp_in_t (by decide) (by decide)) dX10_readLine_238 (rfl) ?_
                        refine lv_icmp_ne (tgt := 249) hx hb dX10_readLine_239 (by decide) (fun c239 => ?_) (fun c239 => ?_)
                        ·
                          refine lv_iinc (v := y + 1) (lv' := [(8, .int (y + 1)), (0, .ref (ad 0)), (1, .int lw), (7, .int ((sSg sw rw_) 63))]) hx hb dX10_readLine_249 hl (k := 3) rfl (by rfl) (by decide) rfl (fun ls hl => ?_)
                          refine lv_goto (tgt := 210) hx hb dX10_readLine_252 (by decide) ?_
                          exact ihm  (i + 1) (y + 1) (by rw [ey]; exact nI_1 i) (hlt) (by omega) (by rw [← hD2, show ((rlR sw rw_) 55 (Int32.toNatClampNeg lw)).toNatClampNeg - i = (((rlR sw rw_) 55 (Int32.toNatClampNeg lw)).toNatClampNeg - (i + 1)) + 1 by omega]; simp only [dpK, eq_false c239, ↓reduceIte]) _ _ hG hL _ (lv_sub hl [1, 2, 3, 0] rfl)
                        ·
                          refine lv_aload_n hx hb dX10_readLine_242 rfl (lv_at hl 0 rfl) ?_
                          refine lv_iload hx hb dX10_readLine_243 (lv_at hl 2 rfl) ?_
                          refine m_callV (n := 1) (As := [.int ((sSg sw rw_) 63)]) (rest := []) (st1 := .int 0 :: []) S hG hL (c_X10_wrong hlv ((sSg sw rw_) 63) (rlS sw rw_) (rlR sw rw_) ) gX10_readLine_X10_wrong rfl (by decide +kernel) ⟨Nat.le_of_ble_eq_true rfl, Nat.le_of_ble_eq_true rfl⟩ rfl hl.1 rfl (Nat.le_of_ble_eq_true rfl) dX10_readLine_245 ⟨Nat.zero_le _, Nat.zero_le _⟩ (rfl) (fun H locs hG hL => ?_)
                          exact m_zret S hr hlocks (by decide) hG hL dX10_readLine_248 (by rw [← hF]; have q := hD2; rw [show ((rlR sw rw_) 55 (Int32.toNatClampNeg lw)).toNatClampNeg - i = (((rlR sw rw_) 55 (Int32.toNatClampNeg lw)).toNatClampNeg - (i + 1)) + 1 by omega] at q; simp only [dpK, eq_true c239, ↓reduceIte] at q; simp only [rlD, wrX, eq_false c202, ← q, ↓reduceIte]) (by rw [← hF]; have q := hD2; rw [show ((rlR sw rw_) 55 (Int32.toNatClampNeg lw)).toNatClampNeg - i = (((rlR sw rw_) 55 (Int32.toNatClampNeg lw)).toNatClampNeg - (i + 1)) + 1 by omega] at q; simp only [dpK, eq_true c239, ↓reduceIte] at q; simp only [rlD, wrX, eq_false c202, ← q, ↓reduceIte]) (by rw [← hF]; have q := hD2; rw [show ((rlR sw rw_) 55 (Int32.toNatClampNeg lw)).toNatClampNeg - i = (((rlR sw rw_) 55 (Int32.toNatClampNeg lw)).toNatClampNeg - (i + 1)) + 1 by omega] at q; simp only [dpK, eq_true c239, ↓reduceIte] at q; simp only [rlD, wrX, eq_false c202, ← q, ↓reduceIte])
                  exact LI (((rlR sw rw_) 55 (Int32.toNatClampNeg lw)).toNatClampNeg + 1) 0 0 (rfl) (Nat.zero_le _) (by omega) (by rw [Nat.sub_zero]) _ _ hG hL _ (lv_sub hl [3, 4, 1, 0] rfl)
                ·
                  refine lv_iconst (v := 0) hx hb dX10_readLine_205 (by decide) ?_
                  exact m_zret S hr hlocks (by decide) hG hL dX10_readLine_206 (by rw [← hF]; simp only [rlD, eq_true c202, ↓reduceIte]) (by rw [← hF]; simp only [rlD, eq_true c202, ↓reduceIte]) (by rw [← hF]; simp only [rlD, eq_true c202, ↓reduceIte])
            exact LD 13 (upd (sSg sv (rl1 (Int32.toNatClampNeg lw) rv)) 63 (((sSg sv (rl1 (Int32.toNatClampNeg lw) rv)) 63) + 1)) (rl1 (Int32.toNatClampNeg lw) rv) (hO.trans (tOn_comma hO.2.1 c148 (by decide)).1) (lnI_0 ..) (by omega) (by rw [hX]; simp only [rlB, rlC, hdp, Bool.false_eq_true, eq_true c148, ↓reduceIte]) _ _ hG hL _ (lv_sub hl [1, 2] rfl)
          ·
            refine lv_aload_n hx hb dX10_readLine_151 rfl (lv_at hl 0 rfl) ?_
            refine lv_aload_n hx hb dX10_readLine_152 rfl (lv_at hl 0 rfl) ?_
            refine m_gi (v := (sSg sv (rl1 (Int32.toNatClampNeg lw) rv)) 63) S hG 63 rfl (hts (.fieldLink RX10 238 "SwarmLineModel" "at" "I") (by decide +kernel)) dX10_readLine_153 rfl ?_
            refine m_callV (n := 1) (As := [.int ((sSg sv (rl1 (Int32.toNatClampNeg lw) rv)) 63)]) (rest := []) (st1 := .int 0 :: []) S hG hL (c_X10_wrong hlv ((sSg sv (rl1 (Int32.toNatClampNeg lw) rv)) 63) (sSg sv (rl1 (Int32.toNatClampNeg lw) rv)) (rl1 (Int32.toNatClampNeg lw) rv) ) gX10_readLine_X10_wrong rfl (by decide +kernel) ⟨Nat.le_of_ble_eq_true rfl, Nat.le_of_ble_eq_true rfl⟩ rfl hl.1 rfl (Nat.le_of_ble_eq_true rfl) dX10_readLine_156 ⟨Nat.zero_le _, Nat.zero_le _⟩ (rfl) (fun H locs hG hL => ?_)
            exact m_zret S hr hlocks (by decide) hG hL dX10_readLine_159 (by rw [hX]; simp only [rlB, rlC, wrX, hdp, sSg_63, Bool.false_eq_true, eq_false c148, ↓reduceIte]) (by rw [hX]; simp only [rlB, rlC, wrX, hdp, sSg_63, Bool.false_eq_true, eq_false c148, ↓reduceIte]) (by rw [hX]; simp only [rlB, rlC, wrX, hdp, sSg_63, Bool.false_eq_true, eq_false c148, ↓reduceIte])
        ·
          have hlt := (not_congr (nle (by omega) (by omega))).mp (ex ▸ hlw.2.2.2 ▸ c91 : ¬ nI (Int32.toNatClampNeg lw) ≤ nI k)
          refine lv_aload_n hx hb dX10_readLine_94 rfl (lv_at hl 0 rfl) ?_
          refine m_ga S hG 54 rfl (hts (.fieldLink RX10 146 "SwarmLineModel" "lineDistrict" "[I") (by decide +kernel)) dX10_readLine_95 ?_
          refine lv_iload hx hb dX10_readLine_98 (lv_at hl 3 rfl) ?_
          refine m_ldj (j := k) (v := rv 54 k) S hG 54 rfl hii (show vp_in x 20 from by rw [ex]; exact vp_in_i (by omega) (by omega)) dX10_readLine_100 (rfl) ?_
          refine lv_aload_n hx hb dX10_readLine_101 rfl (lv_at hl 0 rfl) ?_
          refine m_ga S hG 65 rfl (hts (.fieldLink RX10 168 "SwarmLineModel" "fact" "[I") (by decide +kernel)) dX10_readLine_102 ?_
          refine lv_iconst (v := 0) hx hb dX10_readLine_105 (by decide) ?_
          refine m_ld (v := rv 65 (Int32.toNatClampNeg 0)) S hG 65 rfl (show vp_in 0 6 from vp_in_t (by decide) (by decide)) dX10_readLine_106 (rfl) ?_
          refine lv_icmp_ne (tgt := 117) hx hb dX10_readLine_107 (by decide) (fun c107 => ?_) (fun c107 => ?_)
          ·
            refine lv_iinc (v := x + 1) (lv' := [(5, .int (x + 1)), (0, .ref (ad 0)), (1, .int lw), (4, .int pl)]) hx hb dX10_readLine_117 hl (k := 3) rfl (by rfl) (by decide) rfl (fun ls hl => ?_)
            refine lv_goto (tgt := 88) hx hb dX10_readLine_120 (by decide) ?_
            exact ih  (k + 1) (x + 1) (by rw [ex]; exact nI_1 k) (by omega) (by omega) (by rw [← hD, show Int32.toNatClampNeg lw - k = (Int32.toNatClampNeg lw - (k + 1)) + 1 by omega]; simp only [dpF, eq_false c107, ↓reduceIte]) _ _ hG hL _ (lv_sub hl [1, 2, 3, 0] rfl)
          ·
            refine lv_aload_n hx hb dX10_readLine_110 rfl (lv_at hl 0 rfl) ?_
            refine lv_iload hx hb dX10_readLine_111 (lv_at hl 2 rfl) ?_
            refine m_callV (n := 1) (As := [.int pl]) (rest := []) (st1 := .int 0 :: []) S hG hL (c_X10_wrong hlv pl sv rv ) gX10_readLine_X10_wrong rfl (by decide +kernel) ⟨Nat.le_of_ble_eq_true rfl, Nat.le_of_ble_eq_true rfl⟩ rfl hl.1 rfl (Nat.le_of_ble_eq_true rfl) dX10_readLine_113 ⟨Nat.zero_le _, Nat.zero_le _⟩ (rfl) (fun H locs hG hL => ?_)
            exact m_zret S hr hlocks (by decide) hG hL dX10_readLine_116 (by rw [hX]; have q := hD; rw [show Int32.toNatClampNeg lw - k = (Int32.toNatClampNeg lw - (k + 1)) + 1 by omega] at q; simp only [dpF, eq_true c107, ↓reduceIte] at q; simp only [rlB, wrX, ← q, ↓reduceIte]) (by rw [hX]; have q := hD; rw [show Int32.toNatClampNeg lw - k = (Int32.toNatClampNeg lw - (k + 1)) + 1 by omega] at q; simp only [dpF, eq_true c107, ↓reduceIte] at q; simp only [rlB, wrX, ← q, ↓reduceIte]) (by rw [hX]; have q := hD; rw [show Int32.toNatClampNeg lw - k = (Int32.toNatClampNeg lw - (k + 1)) + 1 by omega] at q; simp only [dpF, eq_true c107, ↓reduceIte] at q; simp only [rlB, wrX, ← q, ↓reduceIte])
    exact LK (Int32.toNatClampNeg lw + 1) 10 10 (rfl) (by omega) (by omega) (rfl) _ _ hG hL _ (lv_sub hl [1, 2, 3, 0] rfl)
  refine lv_iload_n hx hb dX10_readLine_8 rfl (lv_at hl 0 rfl) ?_
  refine lv_if_ne (tgt := 31) hx hb dX10_readLine_9 (by decide) (fun c9 => ?_) (fun c9 => ?_)
  ·
    refine lv_aload_n hx hb dX10_readLine_31 rfl (lv_at hl 1 rfl) ?_
    refine m_gi (v := (sSg s r) 63) S hG 63 rfl (hts (.fieldLink RX10 238 "SwarmLineModel" "at" "I") (by decide +kernel)) dX10_readLine_32 rfl ?_
    refine lv_istore_n (lv' := [(3, .int ((sSg s r) 63)), (2, .int (fIw 1701606245 s r)), (0, .ref (ad 0)), (1, .int lw)]) hx hb dX10_readLine_35 rfl hl (by decide) rfl (fun ls hl => ?_)
    refine lv_aload_n hx hb dX10_readLine_36 rfl (lv_at hl 2 rfl) ?_
    refine lv_aload_n hx hb dX10_readLine_37 rfl (lv_at hl 2 rfl) ?_
    refine m_callV (n := 0) (As := []) (rest := [.ref (ad 0)]) (st1 := .int (nI (aWe (sSg s r) r)) :: [.ref (ad 0)]) S hG hL (c_X10_wordEnd hlv  (sSg s r) r (tB_sg hB)) gX10_readLine_X10_wordEnd rfl (by decide +kernel) ⟨Nat.le_of_ble_eq_true rfl, Nat.le_of_ble_eq_true rfl⟩ rfl hl.1 rfl (Nat.le_of_ble_eq_true rfl) dX10_readLine_38 ⟨Nat.zero_le _, Nat.zero_le _⟩ (rfl) (fun H locs hG hL => ?_)
    refine m_pi S hG hL 63 rfl (hts (.fieldLink RX10 238 "SwarmLineModel" "at" "I") (by decide +kernel)) dX10_readLine_41 (fun H locs hG hL => ?_)
    have hG : gW D Hb lv ad (mJ ce0 ad cI cZ (s2L s r) r) H := hG
    refine lv_aload_n hx hb dX10_readLine_44 rfl (lv_at hl 2 rfl) ?_
    refine m_ga S hG 65 rfl (hts (.fieldLink RX10 168 "SwarmLineModel" "fact" "[I") (by decide +kernel)) dX10_readLine_45 ?_
    refine lv_iconst (v := 0) hx hb dX10_readLine_48 (by decide) ?_
    refine lv_bipush (v := 16) hx hb dX10_readLine_49 (by decide) ?_
    refine m_st S hG hL 65 rfl (show vp_in 0 6 from vp_in_t (by decide) (by decide)) dX10_readLine_51 (fun H locs hG hL => ?_)
    have hG : gW D Hb lv ad (mJ ce0 ad cI cZ (s2L s r) (rl0 r)) H := hG
    refine lv_iload_n hx hb dX10_readLine_52 rfl (lv_at hl 0 rfl) ?_
    refine lv_istore (lv' := [(4, .int ((sSg s r) 63)), (3, .int ((sSg s r) 63)), (2, .int (fIw 1701606245 s r)), (0, .ref (ad 0)), (1, .int lw)]) hx hb dX10_readLine_53 hl (by decide) rfl (fun ls hl => ?_)
    refine lv_iload_n hx hb dX10_readLine_55 rfl (lv_at hl 2 rfl) ?_
    refine lv_if_ne (tgt := 84) hx hb dX10_readLine_56 (by decide) (fun c56 => ?_) (fun c56 => absurd c56 (c9))
    exact LA  ((sSg s r) 63) (s2L s r) (rl0 r) (tOn_2L hB) (by simp only [rlA, rlI, sSg_63, eq_false c9, ↓reduceIte]) _ _ hG hL _ (lv_sub hl [3, 4, 0] rfl)
  ·
    refine lv_aload_n hx hb dX10_readLine_12 rfl (lv_at hl 1 rfl) ?_
    refine lv_ldc2 (v := 26990) hx hb hown (hts (.constantLong RX10 298 26990) (by decide +kernel)) dX10_readLine_13 ?_
    refine m_callV (n := 1) (As := [.long 26990]) (rest := []) (st1 := .int (fIw 26990 s r) :: []) S hG hL (c_X10_isWord hlv 26990 (sSg s r) r (tB_sg hB)) gX10_readLine_X10_isWord rfl (by decide +kernel) ⟨Nat.le_of_ble_eq_true rfl, Nat.le_of_ble_eq_true rfl⟩ rfl hl.1 rfl (Nat.le_of_ble_eq_true rfl) dX10_readLine_16 ⟨Nat.zero_le _, Nat.zero_le _⟩ (by rw [fIw_sg _ hB]; rfl) (fun H locs hG hL => ?_)
    rw [sSg_id hB] at hG
    refine lv_if_ne (tgt := 31) hx hb dX10_readLine_19 (by decide) (fun c19 => ?_) (fun c19 => ?_)
    ·
      refine lv_aload_n hx hb dX10_readLine_31 rfl (lv_at hl 1 rfl) ?_
      refine m_gi (v := (sSg s r) 63) S hG 63 rfl (hts (.fieldLink RX10 238 "SwarmLineModel" "at" "I") (by decide +kernel)) dX10_readLine_32 rfl ?_
      refine lv_istore_n (lv' := [(3, .int ((sSg s r) 63)), (2, .int (fIw 1701606245 s r)), (0, .ref (ad 0)), (1, .int lw)]) hx hb dX10_readLine_35 rfl hl (by decide) rfl (fun ls hl => ?_)
      refine lv_aload_n hx hb dX10_readLine_36 rfl (lv_at hl 2 rfl) ?_
      refine lv_aload_n hx hb dX10_readLine_37 rfl (lv_at hl 2 rfl) ?_
      refine m_callV (n := 0) (As := []) (rest := [.ref (ad 0)]) (st1 := .int (nI (aWe (sSg s r) r)) :: [.ref (ad 0)]) S hG hL (c_X10_wordEnd hlv  (sSg s r) r (tB_sg hB)) gX10_readLine_X10_wordEnd rfl (by decide +kernel) ⟨Nat.le_of_ble_eq_true rfl, Nat.le_of_ble_eq_true rfl⟩ rfl hl.1 rfl (Nat.le_of_ble_eq_true rfl) dX10_readLine_38 ⟨Nat.zero_le _, Nat.zero_le _⟩ (rfl) (fun H locs hG hL => ?_)
      refine m_pi S hG hL 63 rfl (hts (.fieldLink RX10 238 "SwarmLineModel" "at" "I") (by decide +kernel)) dX10_readLine_41 (fun H locs hG hL => ?_)
      have hG : gW D Hb lv ad (mJ ce0 ad cI cZ (s2L s r) r) H := hG
      refine lv_aload_n hx hb dX10_readLine_44 rfl (lv_at hl 2 rfl) ?_
      refine m_ga S hG 65 rfl (hts (.fieldLink RX10 168 "SwarmLineModel" "fact" "[I") (by decide +kernel)) dX10_readLine_45 ?_
      refine lv_iconst (v := 0) hx hb dX10_readLine_48 (by decide) ?_
      refine lv_bipush (v := 16) hx hb dX10_readLine_49 (by decide) ?_
      refine m_st S hG hL 65 rfl (show vp_in 0 6 from vp_in_t (by decide) (by decide)) dX10_readLine_51 (fun H locs hG hL => ?_)
      have hG : gW D Hb lv ad (mJ ce0 ad cI cZ (s2L s r) (rl0 r)) H := hG
      refine lv_iload_n hx hb dX10_readLine_52 rfl (lv_at hl 0 rfl) ?_
      refine lv_istore (lv' := [(4, .int ((sSg s r) 63)), (3, .int ((sSg s r) 63)), (2, .int (fIw 1701606245 s r)), (0, .ref (ad 0)), (1, .int lw)]) hx hb dX10_readLine_53 hl (by decide) rfl (fun ls hl => ?_)
      refine lv_iload_n hx hb dX10_readLine_55 rfl (lv_at hl 2 rfl) ?_
      refine lv_if_ne (tgt := 84) hx hb dX10_readLine_56 (by decide) (fun c56 => absurd c56 (fun h => h c9)) (fun c56 => ?_)
      refine lv_aload_n hx hb dX10_readLine_59 rfl (lv_at hl 3 rfl) ?_
      refine m_callV (n := 0) (As := []) (rest := []) (st1 := .int (vSg (s2L s r) (rl0 r)) :: []) S hG hL (c_X10_sign hlv  (s2L s r) (rl0 r) ((tOn_2L (r := r) hB).2.1)) gX10_readLine_X10_sign rfl (by decide +kernel) ⟨Nat.le_of_ble_eq_true rfl, Nat.le_of_ble_eq_true rfl⟩ rfl hl.1 rfl (Nat.le_of_ble_eq_true rfl) dX10_readLine_60 ⟨Nat.zero_le _, Nat.zero_le _⟩ (rfl) (fun H locs hG hL => ?_)
      refine lv_istore (lv' := [(5, .int (vSg (s2L s r) (rl0 r))), (4, .int ((sSg s r) 63)), (3, .int ((sSg s r) 63)), (2, .int (fIw 1701606245 s r)), (0, .ref (ad 0)), (1, .int lw)]) hx hb dX10_readLine_63 hl (by decide) rfl (fun ls hl => ?_)
      refine lv_aload_n hx hb dX10_readLine_65 rfl (lv_at hl 4 rfl) ?_
      refine m_gi (v := (sSg (s2L s r) (rl0 r)) 63) S hG 63 rfl (hts (.fieldLink RX10 238 "SwarmLineModel" "at" "I") (by decide +kernel)) dX10_readLine_66 rfl ?_
      refine lv_istore (lv' := [(4, .int ((sSg (s2L s r) (rl0 r)) 63)), (5, .int (vSg (s2L s r) (rl0 r))), (3, .int ((sSg s r) 63)), (2, .int (fIw 1701606245 s r)), (0, .ref (ad 0)), (1, .int lw)]) hx hb dX10_readLine_69 hl (by decide) rfl (fun ls hl => ?_)
      refine lv_aload_n hx hb dX10_readLine_71 rfl (lv_at hl 4 rfl) ?_
      refine lv_iconst (v := 0) hx hb dX10_readLine_72 (by decide) ?_
      refine lv_iconst (v := 0) hx hb dX10_readLine_73 (by decide) ?_
      refine lv_bipush (v := 15) hx hb dX10_readLine_74 (by decide) ?_
      refine m_callV (n := 3) (As := [.int 0, .int 0, .int 15]) (rest := []) (st1 := .int (okN 0 15 (sSg (s2L s r) (rl0 r)) (rl0 r)) :: []) S hG hL (c_X10_number hlv 0 0 15 (sSg (s2L s r) (rl0 r)) (rl0 r) (tB_sg (tOn_2L (r := r) hB).2.1) (vp_in_t (by decide) (by decide))) gX10_readLine_X10_number rfl (by decide +kernel) ⟨Nat.le_of_ble_eq_true rfl, Nat.le_of_ble_eq_true rfl⟩ rfl hl.1 rfl (Nat.le_of_ble_eq_true rfl) dX10_readLine_76 ⟨Nat.zero_le _, Nat.zero_le _⟩ (rfl) (fun H locs hG hL => ?_)
      refine lv_if_ne (tgt := 84) hx hb dX10_readLine_79 (by decide) (fun c79 => ?_) (fun c79 => ?_)
      ·
        exact LA  ((sSg (s2L s r) (rl0 r)) 63) (sN 0 15 (sSg (s2L s r) (rl0 r)) (rl0 r)) (rN 0 0 15 (sSg (s2L s r) (rl0 r)) (rl0 r)) ((tOn_2L (r := r) hB).trans ((tOn_sg (r := rl0 r) (tOn_2L hB).2.1).trans (tOn_N (r := rl0 r) 0 15 (tB_sg (tOn_2L hB).2.1)))) (by simp only [rlA, rlI, sSg_63, eq_true c9, eq_false c19, eq_false c79, ↓reduceIte]) _ _ hG hL _ (lv_sub hl [4, 5, 0] rfl)
      ·
        refine lv_iconst (v := 0) hx hb dX10_readLine_82 (by decide) ?_
        exact m_zret S hr hlocks (by decide) hG hL dX10_readLine_83 (by simp only [rlA, rlI, eq_true c9, eq_false c19, eq_true c79, ↓reduceIte]) (by simp only [rlA, rlI, eq_true c9, eq_false c19, eq_true c79, ↓reduceIte]) (by simp only [rlA, rlI, eq_true c9, eq_false c19, eq_true c79, ↓reduceIte])
    ·
      refine lv_aload_n hx hb dX10_readLine_22 rfl (lv_at hl 1 rfl) ?_
      refine lv_aload_n hx hb dX10_readLine_23 rfl (lv_at hl 1 rfl) ?_
      refine m_gi (v := (sSg s r) 63) S hG 63 rfl (hts (.fieldLink RX10 238 "SwarmLineModel" "at" "I") (by decide +kernel)) dX10_readLine_24 rfl ?_
      refine m_callV (n := 1) (As := [.int ((sSg s r) 63)]) (rest := []) (st1 := .int 0 :: []) S hG hL (c_X10_wrong hlv ((sSg s r) 63) (sSg s r) r ) gX10_readLine_X10_wrong rfl (by decide +kernel) ⟨Nat.le_of_ble_eq_true rfl, Nat.le_of_ble_eq_true rfl⟩ rfl hl.1 rfl (Nat.le_of_ble_eq_true rfl) dX10_readLine_27 ⟨Nat.zero_le _, Nat.zero_le _⟩ (rfl) (fun H locs hG hL => ?_)
      exact m_zret S hr hlocks (by decide) hG hL dX10_readLine_30 (by simp only [rlA, wrX, sSg_63, eq_true c9, eq_true c19, ↓reduceIte]) (by simp only [rlA, wrX, sSg_63, eq_true c9, eq_true c19, ↓reduceIte]) (by simp only [rlA, wrX, sSg_63, eq_true c9, eq_true c19, ↓reduceIte])
