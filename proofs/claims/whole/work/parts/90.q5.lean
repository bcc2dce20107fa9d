/-! an hour: swarms and keepers -/
theorem up2_sw (r : Nat → Nat → Int32) {f g : Nat} (h : ¬ f = g) (i j : Nat) (x y : Int32) : up2 (up2 r f i x) g j y = up2 (up2 r g j y) f i x := by
  funext k m
  simp only [up2_e]
  by_cases c : k = g
  · have : ¬ k = f := fun e => h (e.symm.trans c)
    simp [c, this, show ¬ g = f from fun e => h e.symm]
  · simp [c]
section JO
variable {sC sM : Nat → Int32} {rC rM : Nat → Nat → Int32}
theorem jI_15 (h : jI sC rC sM rM) (i : Nat) (x : Int32) (hx : x = 0 ∨ x = 2) : jI sC (up2 rC 15 i x) sM (up2 rM 15 i x) := by
  obtain ⟨a, b, c, d, e⟩ := h
  refine ⟨qR_up a 15 i x, b, jE_up c (by rcases hx with q | q <;> simp [jV, j012, q]), ⟨d.1, d.2.1, d.2.2.1, fun j hj => ?_, d.2.2.2.2⟩, jQ_eq e (up2_nn _ _ _ (by decide)) (fun dd hd => up2_nn _ _ _ (by omega)) rfl (Int.le_refl _) (up2_nn _ _ _ (by decide)) (up2_nn _ _ _ (by decide)) (up2_nn _ _ _ (by decide))⟩
  rw [up2_e] at hj
  by_cases q : 15 = 15 ∧ j = i
  · rw [if_pos q] at hj
    rw [hj] at hx
    exact absurd hx (by decide)
  · rw [if_neg q] at hj
    exact d.2.2.2.1 j hj
theorem jI_24 (h : jI sC rC sM rM) (g : Nat) (hg : g = 24 ∨ g = 25) (i : Nat) (x : Int32) (hn : ¬ rM 15 i = 1) : jI sC (up2 rC g i x) sM (up2 rM g i x) := by
  obtain ⟨a, b, c, d, e⟩ := h
  refine ⟨qR_up a g i x, b, jE_up c (by rcases hg with q | q <;> rw [q] <;> trivial), ⟨?_, ?_, ?_, fun j hj => ?_, ?_⟩, jQ_eq e (up2_nn _ _ _ (by omega)) (fun dd hd => up2_nn _ _ _ (by omega)) rfl (Int.le_refl _) (up2_nn _ _ _ (by omega)) (up2_nn _ _ _ (by omega)) (up2_nn _ _ _ (by omega))⟩
  · unfold jP; rw [up2_nn _ _ _ (by omega)]; exact d.1
  · unfold jX; rw [up2_nn _ _ _ (by omega), up2_nn _ _ _ (by omega)]; exact d.2.1
  · unfold jK; rw [up2_nn _ _ _ (by omega), up2_nn _ _ _ (by omega)]; exact d.2.2.1
  · rw [up2_n _ _ _ _ (by omega)] at hj
    have hne : ¬ j = i := fun q => hn (by rw [← q]; exact hj)
    rw [up2_e, up2_e, if_neg (fun q => hne q.2), if_neg (fun q => hne q.2)]
    exact d.2.2.2.1 j hj
  · unfold j36; rw [up2_nn _ _ _ (by omega)]; exact d.2.2.2.2
theorem jI_34 (h : jI sC rC sM rM) (i : Nat) (x : Int32) (hx : x = 0 ∨ x = 2) : jI sC (up2 rC 34 i x) sM (up2 rM 34 i x) := by
  obtain ⟨a, b, c, d, e⟩ := h
  have k : ∀ j, up2 rM 34 i x 34 j = 1 → rM 34 j = 1 := by
    intro j hj
    rw [up2_e] at hj
    by_cases q : 34 = 34 ∧ j = i
    · rw [if_pos q] at hj
      rw [hj] at hx
      exact absurd hx (by decide)
    · rw [if_neg q] at hj
      exact hj
  exact ⟨qR_up a 34 i x, b, jE_up c (by rcases hx with q | q <;> simp [jV, j012, q]), ⟨d.1, fun j hj => d.2.1 j (k j hj), fun j hj => d.2.2.1 j (k j hj), d.2.2.2.1, d.2.2.2.2⟩, jQ_eq e (up2_nn _ _ _ (by decide)) (fun dd hd => up2_nn _ _ _ (by omega)) rfl (Int.le_refl _) (up2_nn _ _ _ (by decide)) (up2_nn _ _ _ (by decide)) (up2_nn _ _ _ (by decide))⟩
theorem jI_37 (h : jI sC rC sM rM) (i : Nat) (x : Int32) (hn : ¬ rM 34 i = 1) : jI sC (up2 rC 37 i x) sM (up2 rM 37 i x) := by
  obtain ⟨a, b, c, d, e⟩ := h
  refine ⟨qR_up a 37 i x, b, jE_up c trivial, ⟨d.1, d.2.1, fun j hj => ?_, d.2.2.2.1, d.2.2.2.2⟩, jQ_eq e (up2_nn _ _ _ (by decide)) (fun dd hd => up2_nn _ _ _ (by omega)) rfl (Int.le_refl _) (up2_nn _ _ _ (by decide)) (up2_nn _ _ _ (by decide)) (up2_nn _ _ _ (by decide))⟩
  rw [up2_n _ _ _ _ (by decide)] at hj
  have hne : ¬ j = i := fun q => hn (by rw [← q]; exact hj)
  rw [up2_e, if_neg (fun q => hne q.2)]
  exact d.2.2.1 j hj
theorem j_lp (h : jI sC rC sM rM) (i : Nat) : jI sC (lpR i (fTa (rM 2 (Int32.toNatClampNeg (sM 1 / 24)))) (sM 1) rC) sM (swStep sM i rM) := by
  unfold lpR swStep
  rw [h.q.r 15, h.q.r 22]
  by_cases c : rM 15 i = 0
  · rw [if_pos c, if_pos c]
    have h1 := jI_up h 22 i (rM 22 i - fTa (rM 2 (Int32.toNatClampNeg (sM 1 / 24)))) rfl trivial
    by_cases c2 : rM 22 i - fTa (rM 2 (Int32.toNatClampNeg (sM 1 / 24))) ≤ 0
    · rw [if_pos c2, if_pos c2]
      refine jI_24 (jI_15 h1 i 2 (Or.inr rfl)) 24 (Or.inl rfl) i (sM 1) ?_
      rw [up2_ss]
      decide
    · rw [if_neg c2, if_neg c2]
      exact h1
  · rw [if_neg c, if_neg c]
    exact h
theorem swS_o (s : Nat → Int32) (i : Nat) (r : Nat → Nat → Int32) {f : Nat} (h1 : ¬ f = 15) (h2 : ¬ f = 22) (h3 : ¬ f = 24) : swStep s i r f = r f := by
  unfold swStep
  split
  · split
    · rw [up2_nn _ _ _ h3, up2_nn _ _ _ h1, up2_nn _ _ _ h2]
    · rw [up2_nn _ _ _ h2]
  · rfl
theorem swR_o (s : Nat → Int32) (r : Nat → Nat → Int32) {f : Nat} (h1 : ¬ f = 15) (h2 : ¬ f = 22) (h3 : ¬ f = 24) : ∀ n, swR s r n f = r f
  | 0 => rfl
  | n + 1 => (swS_o s n _ h1 h2 h3).trans (swR_o s r h1 h2 h3 n)
theorem j_pa (h : jI sC rC sM rM) : ∀ n, jI sC (paR (fTa (rM 2 (Int32.toNatClampNeg (sM 1 / 24)))) (sM 1) rC n) sM (swR sM rM n)
  | 0 => h
  | n + 1 => by
    have ih := j_pa h n
    have := j_lp ih n
    rw [swR_o sM rM (f := 2) (by decide) (by decide) (by decide) n] at this
    exact this
theorem ns_vi (h : jI sC rC sM rM) (c : Nat) : ∀ n, nsF (rM 42 c) (rM 43 c) rC n = viF c rM n
  | 0 => rfl
  | n + 1 => by
    unfold nsF viF
    have e : kSt (rM 18 n) (rM 19 n) (rM 42 c) (rM 43 c) = fSt (rM 18 n) (rM 19 n) (rM 42 c) (rM 43 c) := (kSt_f (h.E 18 n) (h.E 19 n) (h.E 42 c) (h.E 43 c)).1
    rw [ns_vi h c n, h.q.r 15, h.q.r 18, h.q.r 19, e]
    by_cases c0 : rM 15 n = 0
    · rw [if_pos c0, if_pos c0]
      by_cases c1 : fSt (rM 18 n) (rM 19 n) (rM 42 c) (rM 43 c) < (viF c rM n).2
      · rw [if_pos c1, if_neg (fun q => by rw [Int32.lt_iff_toInt_lt] at c1; rw [Int32.le_iff_toInt_le] at q; omega)]
      · rw [if_neg c1, if_pos (by rw [Int32.lt_iff_toInt_lt] at c1; rw [Int32.le_iff_toInt_le]; omega)]
    · rw [if_neg c0, if_neg c0]
theorem wc_vs (h : jI sC rC sM rM) (i : Nat) : wcF i sC rC = vsF (rM 37 i) sM rM := by
  unfold wcF vsF
  rw [h.q.r 37, h.q.r 42, h.q.r 43, h.q.s 14, ns_vi h]
/-- behind a visit, with the keeper on his way home -/
theorem j_wc (h : jI sC rC sM rM) (i : Nat) (hi : i < 60) (h34 : rM 34 i = 1) : jI sC (up2 (wcR (nI i) i sC rC) 34 i 2) sM (up2 (vsR (nI i) (rM 37 i) sM rM) 34 i 2) := by
  have bk := h.K i h34
  have bx := h.X i h34
  have b29 : 0 ≤ (rM 29 i).toInt ∧ (rM 29 i).toInt ≤ 20 := h.E 29 i
  unfold wcR vsR
  rw [wc_vs h, ix_nI (by omega), h.q.r 37, h.q.r 20, h.q.r 30, h.q.r 29, h.q.r 38, h.q.r 45, h.q.s 1]
  by_cases c0 : vsF (rM 37 i) sM rM = -1
  · rw [if_pos c0, if_pos c0]
    exact jI_34 (jI_up h 41 _ 3 rfl (show 0 ≤ (3 : Int32).toInt by decide)) i 2 (Or.inr rfl)
  rw [if_neg c0, if_neg c0]
  by_cases c1 : rM 20 (Int32.toNatClampNeg (vsF (rM 37 i) sM rM)) ≤ rM 30 i
  · rw [if_pos c1, if_pos c1]
    generalize Int32.toNatClampNeg (vsF (rM 37 i) sM rM) = w
    generalize vsF (rM 37 i) sM rM = wv
    have e29 : (rM 29 i - 1).toInt = (rM 29 i).toInt - 1 := by
      have z : (1 : Int32).toInt = 1 := by decide
      rw [t_sub (by omega) (by omega)]; omega
    have hn := h.N
    obtain ⟨a, b, c, d, e⟩ := h
    rw [up2_sw (f := 25) (g := 24) (up2 (up2 rC 15 w 1) 23 w (nI i)) (by decide)]
    refine ⟨qR_up (qR_up (qR_up (qR_up (qR_up (qR_up (qR_up (qR_up (qR_up a 15 _ _) 23 _ _) 24 _ _) 25 _ _) 29 _ _) 38 _ _) 41 _ _) 51 _ _) 34 _ _, b, ?_, ⟨?_, ?_, ?_, ?_, ?_⟩, ?_⟩
    · exact jE_up (jE_up (jE_up (jE_up (jE_up (jE_up (jE_up (jE_up (jE_up c (g := 15) (Or.inr (Or.inl rfl))) (g := 23) trivial) (g := 24) trivial) (g := 25) trivial) (g := 29) ⟨by omega, by omega⟩) (g := 38) trivial) (g := 41) (show 0 ≤ (2 : Int32).toInt by decide)) (g := 51) trivial) (g := 34) (Or.inr (Or.inr rfl))
    · intro j hj
      simp [up2_e]
      exact d.1 j hj
    · intro j hj
      simp [up2_e] at hj ⊢
      by_cases q : j = i
      · rw [if_pos q] at hj; exact absurd hj (by decide)
      · rw [if_neg q] at hj; rw [if_neg q]; exact d.2.1 j hj
    · intro j hj
      simp [up2_e] at hj ⊢
      by_cases q : j = i
      · rw [if_pos q] at hj; exact absurd hj (by decide)
      · rw [if_neg q] at hj; exact d.2.2.1 j hj
    · intro j hj
      simp [up2_e] at hj ⊢
      by_cases q : j = w
      · rw [if_pos q, if_pos q]
        exact ⟨bk, hn.1⟩
      · rw [if_neg q, if_neg q]
        exact d.2.2.2.1 j (hj q)
    · intro j hj
      simp [up2_e]
      exact d.2.2.2.2 j hj
    · refine jQ_eq e ?_ (fun dd hd => ?_) rfl (Int.le_refl _) ?_ ?_ ?_
      · funext j; simp [up2_e]
      · funext j
        simp only [up2_e]
        repeat rw [if_neg (by omega)]
      · funext j; simp [up2_e]
      · funext j; simp [up2_e]
      · funext j; simp [up2_e]
  rw [if_neg c1, if_neg c1]
  by_cases c2 : rM 20 (Int32.toNatClampNeg (vsF (rM 37 i) sM rM)) ≤ rM 45 (Int32.toNatClampNeg (rM 37 i))
  · rw [if_pos c2, if_neg (fun q => by rw [Int32.lt_iff_toInt_lt] at q; rw [Int32.le_iff_toInt_le] at c2; omega)]
    rw [up2_id (up2 rC 41 (Int32.toNatClampNeg (rM 37 i)) 0) 45 _ _ (by rw [up2_n _ _ _ _ (by decide), h.q.r 45])]
    exact jI_34 (jI_up h 41 _ 0 rfl (show 0 ≤ (0 : Int32).toInt by decide)) i 2 (Or.inr rfl)
  · rw [if_neg c2, if_pos (by rw [Int32.lt_iff_toInt_lt]; rw [Int32.le_iff_toInt_le] at c2; omega)]
    exact jI_34 (jI_up (jI_up h 41 _ 0 rfl (show 0 ≤ (0 : Int32).toInt by decide)) 45 _ _ rfl trivial) i 2 (Or.inr rfl)
theorem j_mv (h : jI sC rC sM rM) (i : Nat) (hi : i < 60) : jI sC (mvR i sC rC) sM (kpStep sM i rM) := by
  unfold mvR kpStep otR
  rw [h.q.r 34, h.q.r 35, ix_nI (by omega)]
  by_cases c0 : rM 34 i = 0
  · rw [if_pos c0, if_pos c0]; exact h
  rw [if_neg c0, if_neg c0]
  have h1 := jI_up h 35 i (rM 35 i - 1) rfl trivial
  have e1 : ot1 (nI i) rM = up2 rM 35 i (rM 35 i - 1) := by
    unfold ot1
    rw [ix_nI (by omega)]
  unfold ot2
  rw [ix_nI (by omega), e1]
  by_cases c1 : rM 35 i - 1 ≤ 0
  · rw [if_pos c1, if_pos c1]
    by_cases c2 : rM 34 i = 2
    · rw [if_pos c2, if_pos c2]
      refine jI_37 (jI_34 h1 i 0 (Or.inl rfl)) i (-1) ?_
      rw [up2_ss]; decide
    · rw [if_neg c2, if_neg c2]
      have h34 : rM 34 i = 1 := by
        rcases h.E 34 i with q | q | q
        · exact absurd q c0
        · exact q
        · exact absurd q c2
      have h2 := j_wc h1 i hi (by rw [up2_n _ _ _ _ (by decide)]; exact h34)
      rw [up2_n _ _ _ _ (by decide)] at h2
      have e36 : wcR (nI i) i sC (up2 rC 35 i (rM 35 i - 1)) 36 i = vsR (nI i) (rM 37 i) sM (up2 rM 35 i (rM 35 i - 1)) 36 i := by
        have := congrFun (h2.q.r 36) i
        rw [up2_n _ _ _ _ (by decide), up2_n _ _ _ _ (by decide)] at this
        exact this
      rw [e36]
      exact jI_up h2 35 i _ rfl trivial
  · rw [if_neg c1, if_neg c1]
    exact h1
theorem j_pb (h : jI sC rC sM rM) : ∀ n, n ≤ 60 → jI sC (pbR sC rC n) sM (kpR sM rM n)
  | 0, _ => h
  | n + 1, hn => j_mv (j_pb h n (by omega)) n (by omega)
end JO
