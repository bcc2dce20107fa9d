/-! steps and hours of the way -/
theorem n_of {x : Int32} (h : 0 ≤ x.toInt) : x = nI x.toNatClampNeg := by
  have h1 := t_ix h
  have h2 := Int32.toInt_lt x
  exact Int32.toInt_inj.mp (by rw [nI_toInt (by omega)]; omega)
theorem ab_eq0 : ∀ a, a < 20 → ∀ b, b < 20 → kAb (nI a - nI b) = fAb (nI a) (nI b) := by decide +kernel
theorem ab_b0 : ∀ a, a < 20 → ∀ b, b < 20 → ∃ d, d < 20 ∧ fAb (nI a) (nI b) = nI d := by decide +kernel
theorem in20 {x : Int32} (h : 0 ≤ x.toInt ∧ x.toInt ≤ 19) : ∃ a, a < 20 ∧ x = nI a := ⟨x.toNatClampNeg, by have := t_ix h.1; omega, n_of h.1⟩
theorem kSt_f {x y u v : Int32} (hx : 0 ≤ x.toInt ∧ x.toInt ≤ 19) (hy : 0 ≤ y.toInt ∧ y.toInt ≤ 19) (hu : 0 ≤ u.toInt ∧ u.toInt ≤ 19) (hv : 0 ≤ v.toInt ∧ v.toInt ≤ 19) : kSt x y u v = fSt x y u v ∧ ∃ d, d < 20 ∧ fSt x y u v = nI d := by
  obtain ⟨a, ha, rfl⟩ := in20 hx
  obtain ⟨b, hb, rfl⟩ := in20 hy
  obtain ⟨c, hc, rfl⟩ := in20 hu
  obtain ⟨d, hd, rfl⟩ := in20 hv
  unfold kSt fSt
  rw [ab_eq0 a ha c hc, ab_eq0 b hb d hd]
  obtain ⟨A, hA, eA1⟩ := ab_b0 a ha c hc
  obtain ⟨B, hB, eB1⟩ := ab_b0 b hb d hd
  rw [eA1, eB1]
  refine ⟨?_, ?_⟩
  · by_cases e : nI A < nI B
    · rw [if_pos e, if_pos (by rw [Int32.le_iff_toInt_le]; rw [Int32.lt_iff_toInt_lt] at e; omega)]
    · rw [if_neg e]
      by_cases e2 : nI A ≤ nI B
      · rw [if_pos e2]
        rw [Int32.lt_iff_toInt_lt] at e
        rw [Int32.le_iff_toInt_le] at e2
        exact Int32.toInt_inj.mp (by omega)
      · rw [if_neg e2]
  · by_cases e2 : nI A ≤ nI B
    · exact ⟨B, hB, if_pos e2⟩
    · exact ⟨A, hA, if_neg e2⟩
theorem ht_wo0 : ∀ d, d < 20 → ∀ p, p < 10 → htF (nI d) (nI (p + 1)) 19 1 = if 1 ≤ wHo (nI d) (nI (p + 1)) then wHo (nI d) (nI (p + 1)) else 1 := by decide +kernel
theorem ht_wo {d : Nat} (hd : d < 20) {p : Int32} (hp : 1 ≤ p.toInt ∧ p.toInt ≤ 10) : htF (nI d) p 19 1 = if 1 ≤ wHo (nI d) p then wHo (nI d) p else 1 := by
  have h0 : 0 ≤ p.toInt := by omega
  have h1 := t_ix h0
  obtain ⟨q, hq⟩ : ∃ q, p.toNatClampNeg = q + 1 := ⟨p.toNatClampNeg - 1, by omega⟩
  have e := n_of h0
  rw [hq] at e
  rw [e]
  exact ht_wo0 d hd q (by omega)
