/-! feed, end -/
section JF
variable {sC sM : Nat → Int32} {rC rM : Nat → Nat → Int32}
theorem jI_61 (h : jI sC rC sM rM) (x : Int32) (hx : 0 ≤ x.toInt ∧ x.toInt ≤ 400) : jI (upd sC 61 x) rC (upd sM 61 x) rM := by
  obtain ⟨a, b, c, d, e⟩ := h
  exact ⟨qR_s a 61 x, ⟨b.1, b.2.1, b.2.2.1, b.2.2.2.1, b.2.2.2.2.1, b.2.2.2.2.2.1, b.2.2.2.2.2.2.1, hx⟩, c, d, e⟩
theorem jI_cs (h : jI sC rC sM rM) {s : Nat → Int32} (hs : ∀ f, f ∈ [1, 6, 14, 26, 39, 40, 52, 57, 61, 64] → s f = sC f) : jI s rC sM rM :=
  ⟨⟨fun f hf => (hs f hf).trans (h.1.1 f hf), h.1.2⟩, h.2⟩
theorem b255 (x : Int32) : 0 ≤ (x &&& 255).toInt ∧ (x &&& 255).toInt ≤ 255 := by
  have e : (x &&& 255).toInt = ((x &&& 255).toBitVec).toInt := rfl
  rw [e, Int32.toBitVec_and]
  have e2 : (255 : Int32).toBitVec = 255#32 := by decide
  rw [e2]
  generalize x.toBitVec = y
  have h : (y &&& 255#32).toNat ≤ 255 := by
    rw [BitVec.toNat_and]
    exact Nat.and_le_right
  rw [BitVec.toInt_eq_toNat_of_lt (by omega)]
  omega
theorem j_fdR (h : jI sC rC sM rM) (b : Nat → Int32) : ∀ n, jI sC (fdR sM rC b n) sM (fdR sM rM b n)
  | 0 => h
  | n + 1 => jI_up (j_fdR h b n) 60 _ _ rfl (b255 _)
theorem j_feed (h : jI sC rC sM rM) (a b c d e : Int32) : kFv sC = vFd sM ∧ jI (kFs sC) (kFr a b c d e sC rC) (sFd sM) (rFd a b c d e sM rM) := by
  refine ⟨pf_v (h.q.s 61), ?_⟩
  rw [pf_r (h.q.s 61)]
  have e61 := pf_s (h.q.s 61)
  have n := h.N.2.2.2.2.2.2.2
  have hs : ∀ f, f ∈ [1, 6, 14, 26, 39, 40, 52, 57, 61, 64] → kFs sC f = upd sC 61 (sFd sM 61) f := by
    have : ∀ f, ¬ f = 61 → kFs sC f = sC f := by
      intro f hf
      unfold kFs
      split
      · rfl
      · unfold apS
        simp only [upd, hf, if_false]
    intro f hf
    by_cases c : f = 61
    · rw [c, e61]; rfl
    · rw [this f c]; exact (if_neg c).symm
  unfold sFd at hs ⊢
  unfold rFd
  by_cases cc : sM 61 + 20 ≤ 400
  · rw [if_pos cc] at hs
    rw [if_pos cc, if_pos cc, if_pos cc]
    refine jI_cs ?_ hs
    have z2 : (20 : Int32).toInt = 20 := by decide
    have z4 : (400 : Int32).toInt = 400 := by decide
    have zn : (nI 20).toInt = 20 := by decide
    have e1 : (sM 61 + 20).toInt = (sM 61).toInt + 20 := by rw [t_add (by omega) (by omega)]; omega
    have e2 : (sM 61 + nI 20).toInt = (sM 61).toInt + 20 := by rw [t_add (by omega) (by omega)]; omega
    rw [Int32.le_iff_toInt_le] at cc
    exact jI_61 (jI_0 (j_fdR h _ 20) 0) _ ⟨by show 0 ≤ (sM 61 + nI 20).toInt; omega, by show (sM 61 + nI 20).toInt ≤ 400; omega⟩
  · rw [if_neg cc] at hs
    rw [if_neg cc, if_neg cc, if_neg cc]
    refine jI_cs (jI_0 h 0) (fun f hf => (hs f hf).trans ?_)
    by_cases c : f = 61
    · rw [c]; exact (h.q.s 61).symm
    · exact if_neg c
theorem j_end (h : jI sC rC sM rM) (n : Int32) : vCt n sC = fEn n sM ∧ jI (sCt n sC) rC (sEn n sM) rM := by
  refine ⟨pe_v n (h.q.s 61), ?_⟩
  unfold sCt sEn
  rw [h.q.s 61]
  by_cases c : n < 0
  · rw [if_pos c, if_pos c]; exact jI_0 h 0
  rw [if_neg c, if_neg c]
  by_cases c2 : n ≤ sM 61
  · rw [if_pos c2, if_pos c2]
    have b := h.N.2.2.2.2.2.2.2
    rw [Int32.lt_iff_toInt_lt] at c
    rw [Int32.le_iff_toInt_le] at c2
    have z : (0 : Int32).toInt = 0 := by decide
    exact jI_61 (jI_0 h 0) n ⟨by omega, by omega⟩
  · rw [if_neg c2, if_neg c2]; exact jI_0 h 0
end JF
