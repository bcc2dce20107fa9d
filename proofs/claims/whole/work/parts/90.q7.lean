/-! send -/
theorem lof_miss {r : Nat → Nat → Int32} {d z : Int32} : ∀ n, (∀ k, k < n → ¬ r 54 k = d) → lof r d z n = z
  | 0, _ => rfl
  | n + 1, h => by
    unfold lof
    rw [if_neg (h n (by omega))]
    exact lof_miss n (fun k hk => h k (by omega))
theorem lof_hit {r : Nat → Nat → Int32} {d z : Int32} : ∀ n, (∀ k q, k < n → q < n → r 54 k = r 54 q → k = q) → ∀ k, k < n → r 54 k = d → lof r d z n = nI k
  | 0, _, k, hk, _ => by omega
  | n + 1, hu, k, hk, he => by
    unfold lof
    by_cases c : r 54 n = d
    · rw [if_pos c, hu n k (by omega) hk (c.trans he.symm)]
    · rw [if_neg c]
      have : ¬ k = n := fun q => c (by rw [← q]; exact he)
      exact lof_hit n (fun a b ha hb => hu a b (by omega) (by omega)) k (by omega) he
theorem nI_jn {a b : Nat} (ha : a ≤ 5000) (hb : b ≤ 5000) (h : nI a = nI b) : a = b := by
  have := ix_nI ha
  rw [h, ix_nI hb] at this
  exact this.symm
section JD
variable {sC sM : Nat → Int32} {rC rM : Nat → Nat → Int32}
theorem j_line (h : jI sC rC sM rM) (d : Nat) (hd : d ≤ 16) : (∃ k, k < (sM 52).toNatClampNeg ∧ jL rC sM rM k d) ∨ ((∀ k, k < (sM 52).toNatClampNeg → ¬ rM 54 k = nI d) ∧ rC 101 d = 0) := by
  by_cases c : ∃ k, k < (sM 52).toNatClampNeg ∧ rM 54 k = nI d
  · obtain ⟨k, hk, he⟩ := c
    obtain ⟨d', q⟩ := h.Q.1 k hk
    have e : d' = d := nI_jn (by have := q.1; omega) (by omega) (q.2.1.symm.trans he)
    rw [e] at q
    exact Or.inl ⟨k, hk, q⟩
  · have c' : ∀ k, k < (sM 52).toNatClampNeg → ¬ rM 54 k = nI d := fun k hk he => c ⟨k, hk, he⟩
    exact Or.inr ⟨c', h.Q.2.2 d hd c'⟩
theorem kSz_n {d : Nat} (hd : d ≤ 16) (r : Nat → Nat → Int32) : kSz (nI d) r = r 101 d := by
  have : ∀ d, d < 17 → ¬ fIn (nI d) 0 16 = 0 := by decide +kernel
  unfold kSz
  rw [if_neg (this d (by omega)), ix_nI (by omega)]
theorem dist_b0 : ∀ a, a < 20 → ∀ b, b < 20 → ∃ d, d < 16 ∧ nI a / 5 * 4 + nI b / 5 = nI d := by decide +kernel
theorem dist_b {x y : Int32} (hx : j19 x) (hy : j19 y) : ∃ d, d < 16 ∧ x / 5 * 4 + y / 5 = nI d := by
  obtain ⟨a, ha, rfl⟩ := in20 hx
  obtain ⟨b, hb, rfl⟩ := in20 hy
  exact dist_b0 a ha b hb
/-- the line that serves a case, if there is one -/
theorem j_sl (h : jI sC rC sM rM) (c : Int32) : (∃ k d, k < (sM 52).toNatClampNeg ∧ jL rC sM rM k d ∧ sdL c sM rM = nI k ∧ ksL c rC = nI d) ∨ (sdL c sM rM = -1 ∧ (kSz (ksL c rC) rC) = 0) := by
  unfold sdL ksL fLi kLf
  rw [h.q.r 43, h.q.r 42]
  obtain ⟨d, hd, e⟩ := dist_b (h.E 43 (Int32.toNatClampNeg c)) (h.E 42 (Int32.toNatClampNeg c))
  rw [e, kSz_n (by omega)]
  have n52 := t_ix h.N.2.2.2.2.2.1.1
  have b52 := h.N.2.2.2.2.2.1.2
  have z0 : (0 : Int32).toInt = 0 := by decide
  rcases j_line h d (by omega) with ⟨k, hk, q⟩ | ⟨q, q0⟩
  · left
    refine ⟨k, d, hk, q, lof_hit _ h.Q.2.1 k hk q.2.1, ?_⟩
    rw [if_neg]
    rw [q.2.2.1, Int32.le_iff_toInt_le]
    have := q.2.2.2.1
    omega
  · rw [lof_miss _ q, q0, if_pos (by decide)]
    have e16 : (16 : Int32) = nI 16 := by decide
    rw [e16]
    rcases j_line h 16 (by omega) with ⟨k, hk, y⟩ | ⟨y, y0⟩
    · left
      exact ⟨k, 16, hk, y, lof_hit _ h.Q.2.1 k hk y.2.1, rfl⟩
    · right
      refine ⟨lof_miss _ y, ?_⟩
      rw [kSz_n (by omega), y0]
theorem fAg_0 (k c : Int32) (s : Nat → Int32) (r : Nat → Nat → Int32) : fAg k c s r ≤ 0 ↔ fAg k c s r = 0 := by
  unfold fAg
  repeat (first | decide | split)
theorem jI_57 (h : jI sC rC sM rM) (x : Int32) (hx : 0 ≤ x.toInt ∧ x.toInt ≤ 12) : jI (upd sC 57 x) rC (upd sM 57 x) rM := by
  obtain ⟨a, b, c, d, e⟩ := h
  exact ⟨qR_s a 57 x, ⟨b.1, b.2.1, b.2.2.1, b.2.2.2.1, b.2.2.2.2.1, b.2.2.2.2.2.1, hx, b.2.2.2.2.2.2.2⟩, c, d, e⟩
theorem j_sdA (h : jI sC rC sM rM) (k c : Int32) (hk : 0 ≤ k.toInt ∧ k.toInt < (sM 26).toInt) (hc : 0 ≤ c.toInt ∧ c.toInt < (sM 39).toInt) (h29 : ¬ rM 29 k.toNatClampNeg = 0) : jI sC (ksA k c rC) sM (sdA k c rM) := by
  have tk := t_ix hk.1
  have t26 := t_ix h.N.2.2.2.1.1
  have b26 := h.N.2.2.2.1
  have eW : kHt k.toNatClampNeg (rC 42 c.toNatClampNeg) (rC 43 c.toNatClampNeg) rC = fWa k c (up2 rM 34 (Int32.toNatClampNeg k) 1) := by
    rw [wa_q h.q rfl rfl (h.P _ (by omega)) (h.E 27 _) (h.E 28 _) (h.E 42 _) (h.E 43 _)]
    unfold fWa wSt
    rw [up2_nn _ _ _ (by decide), up2_nn _ _ _ (by decide), up2_nn _ _ _ (by decide), up2_nn _ _ _ (by decide), up2_nn _ _ _ (by decide)]
  unfold ksA soR sdA
  rw [eW]
  generalize fWa k c (up2 rM 34 (Int32.toNatClampNeg k) 1) = W
  generalize hK : Int32.toNatClampNeg k = K
  rw [hK] at h29 tk
  generalize Int32.toNatClampNeg c = J
  rw [up2_sw (f := 37) (g := 36) _ (by decide), up2_sw (f := 37) (g := 35) _ (by decide)]
  have b29 : 0 ≤ (rM 29 K).toInt ∧ (rM 29 K).toInt ≤ 20 := h.E 29 K
  have b29' : 1 ≤ (rM 29 K).toInt := by
    have : ¬ (rM 29 K).toInt = 0 := fun q => h29 (Int32.toInt_inj.mp (by rw [q]; decide))
    omega
  obtain ⟨a, b, cc, d, e⟩ := h
  refine ⟨qR_up (qR_up (qR_up (qR_up (qR_up (qR_up a 34 _ _) 36 _ _) 35 _ _) 37 _ _) 41 _ _) 50 _ _, b, ?_, ⟨?_, ?_, ?_, ?_, ?_⟩, ?_⟩
  · exact jE_up (jE_up (jE_up (jE_up (jE_up (jE_up cc (g := 34) (Or.inr (Or.inl rfl))) (g := 36) trivial) (g := 35) trivial) (g := 37) trivial) (g := 41) (show 0 ≤ (1 : Int32).toInt by decide)) (g := 50) trivial
  · intro j hj
    simp [up2_e]
    exact d.1 j hj
  · intro j hj
    simp [up2_e] at hj ⊢
    by_cases q : j = K
    · rw [q]; exact b29'
    · exact d.2.1 j (hj q)
  · intro j hj
    simp [up2_e] at hj ⊢
    by_cases q : j = K
    · rw [if_pos q]; exact hc
    · rw [if_neg q]; exact d.2.2.1 j (hj q)
  · intro j hj
    simp [up2_e] at hj ⊢
    exact d.2.2.2.1 j hj
  · intro j hj
    simp [up2_e]
    rw [if_neg (by omega)]
    exact d.2.2.2.2 j hj
  · refine jQ_eq e ?_ (fun dd hd => ?_) rfl (Int.le_refl _) ?_ ?_ ?_
    · funext j; simp [up2_e]
    · funext j
      simp only [up2_e]
      repeat rw [if_neg (by omega)]
    · funext j; simp [up2_e]
    · funext j; simp [up2_e]
    · funext j; simp [up2_e]
theorem ks_k {k d : Nat} (q : jL rC sM rM k d) (hk : k ≤ 20) {i : Nat} (hi : i < (rM 55 k).toNatClampNeg) : ksK (nI d) i rC = sdK (nI k) i rM := by
  unfold ksK sdK
  rw [ix_nI (by have := q.1; omega), ix_nI (by omega)]
  exact (q.2.2.2.2 i hi).1
theorem ks_g (h : jI sC rC sM rM) (c : Int32) {k d : Nat} (q : jL rC sM rM k d) (hk : k ≤ 20) {i : Nat} (hi : i < (rM 55 k).toNatClampNeg) : ksG c (nI d) i sC rC = sdG c (nI k) i sM rM := by
  unfold ksG sdG
  rw [ks_k q hk hi]
  exact ag_q h.q rfl rfl (h.E 29 _).1
theorem j_ksR (h : jI sC rC sM rM) (c : Int32) {k d : Nat} (q : jL rC sM rM k d) (hk : k ≤ 20) : ∀ i, i ≤ (rM 55 k).toNatClampNeg → jI sC (ksR c (nI d) sC rC i) sM (askR c (nI k) sM rM i)
  | 0, _ => h
  | i + 1, hi => by
    unfold ksR askR
    rw [ks_k q hk (by omega), ks_g h c q hk (by omega)]
    exact jI_up (jI_up (j_ksR h c q hk i (by omega)) 58 i _ rfl trivial) 59 i _ rfl trivial
theorem j_ksT (h : jI sC rC sM rM) (c : Int32) (hc : 0 ≤ c.toInt ∧ c.toInt < (sM 39).toInt) {k d : Nat} (q : jL rC sM rM k d) (hk : k ≤ 20) : ∀ n i, i + n = (rM 55 k).toNatClampNeg → (ksT c (nI d) sC rC n i).1 = (sdT c (nI k) sM rM n i).1 ∧ jI (ksT c (nI d) sC rC n i).2.1 (ksT c (nI d) sC rC n i).2.2 (sdT c (nI k) sM rM n i).2.1 (sdT c (nI k) sM rM n i).2.2
  | 0, i, hi => by
    have t := t_ix (x := rM 55 k) (by have := q.2.2.2.1; omega)
    have t2 := q.2.2.2.1
    refine ⟨rfl, ?_⟩
    have e := nI_toInt (n := i) (by omega)
    exact jI_57 (jI_0 (j_ksR h c q hk i (by omega)) 0) (nI i) ⟨by omega, by omega⟩
  | n + 1, i, hi => by
    have t := t_ix (x := rM 55 k) (by have := q.2.2.2.1; omega)
    have t2 := q.2.2.2.1
    have ih := j_ksT h c hc q hk n (i + 1) (by omega)
    unfold ksT sdT
    rw [ks_g h c q hk (by omega), ks_k q hk (by omega)]
    by_cases g : sdG c (nI k) i sM rM = 0
    · have g' : sdG c (nI k) i sM rM ≤ 0 := (fAg_0 _ _ _ _).mpr g
      rw [if_pos g, if_pos g']
      refine ⟨rfl, ?_⟩
      have e := nI_toInt (n := i + 1) (by omega)
      have hR := j_ksR h c q hk (i + 1) (by omega)
      refine jI_57 (jI_0 (j_sdA hR _ c ?_ hc ?_) 0) (nI (i + 1)) ⟨by omega, by omega⟩
      · have := (q.2.2.2.2 i (by omega)).2
        unfold sdK
        rw [ix_nI (by omega)]
        exact this
      · rw [askR_n (by decide) (by decide)]
        intro z
        unfold sdG fAg at g
        rw [z] at g
        split at g
        · exact absurd g (by decide)
        · split at g
          · rw [if_pos rfl] at g; exact absurd g (by decide)
          · exact absurd g (by decide)
    · have g' : ¬ sdG c (nI k) i sM rM ≤ 0 := fun y => g ((fAg_0 _ _ _ _).mp y)
      rw [if_neg g, if_neg g']
      exact ih
theorem j_send (h : jI sC rC sM rM) (c : Int32) : jG [eI, eS] (xSd c sC rC) (ksX c sC rC).1 (ksX c sC rC).2.1 (ksX c sC rC).2.2 sC rC (sdX c sM rM).1 (sdX c sM rM).2.1 (sdX c sM rM).2.2 := by
  unfold xSd sdX
  rw [h.q.s 39, h.q.r 41]
  by_cases c0 : fIs (sM 39) c = 0
  · rw [if_pos c0, if_pos c0]
    refine ⟨fun E q => ?_, ?_, fun q => ?_, fun _ => jI_0 h 1⟩
    · cases q; decide
    · show hC [eI, eS] (some eI) = 1
      decide +kernel
    · cases q
  rw [if_neg c0, if_neg c0]
  by_cases c1 : rM 41 (Int32.toNatClampNeg c) = 0
  · rw [if_pos c1, if_pos c1]
    have hc := js_b c0
    refine ⟨fun E q => ?_, ?_, fun _ => ?_, fun q => absurd rfl q⟩
    · cases q
    · show 0 = _
      split
      · rfl
      · have : ∀ (lw : Int32) n i, (sdT c lw sM rM n i).2.1 0 = 0 := by
          intro lw n
          induction n with
          | zero => intro i; rfl
          | succ n ih =>
            intro i
            unfold sdT
            split
            · rfl
            · exact ih (i + 1)
        exact (this _ _ _).symm
    · unfold ksX
      rcases j_sl h c with ⟨k, d, hk, q, e1, e2⟩ | ⟨e1, e2⟩
      · have n52 := t_ix h.N.2.2.2.2.2.1.1
        have b52 := h.N.2.2.2.2.2.1.2
        rw [e1, e2, if_neg (nI_m1 (by omega)), kSz_n q.1, q.2.2.1, ix_nI (by omega)]
        exact j_ksT h c hc q (by omega) _ 0 (by omega)
      · rw [e1, if_pos rfl, e2]
        exact ⟨rfl, jI_57 (jI_0 h 0) 0 (by decide)⟩
  · rw [if_neg c1, if_neg c1]
    refine ⟨fun E q => ?_, ?_, fun q => ?_, fun _ => jI_0 h 2⟩
    · cases q; decide
    · show hC [eI, eS] (some eS) = 2
      decide +kernel
    · cases q
end JD
