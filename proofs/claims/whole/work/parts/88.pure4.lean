/-! what the class and the reference have in common -/
def qR (sC : Nat → Int32) (rC : Nat → Nat → Int32) (sM : Nat → Int32) (rM : Nat → Nat → Int32) : Prop := (∀ f, f ∈ [1, 6, 14, 26, 39, 40, 52, 57, 61, 64] → sC f = sM f) ∧ (∀ f, f ∈ [2, 3, 4, 5, 7, 8, 9, 10, 11, 12, 13, 15, 16, 17, 18, 19, 20, 21, 22, 23, 24, 25, 27, 28, 29, 30, 31, 32, 33, 34, 35, 36, 37, 38, 41, 42, 43, 44, 45, 46, 47, 48, 49, 50, 51, 58, 59, 60] → rC f = rM f)
theorem qR.s {sC sM : Nat → Int32} {rC rM : Nat → Nat → Int32} (h : qR sC rC sM rM) (f : Nat) (hf : f ∈ [1, 6, 14, 26, 39, 40, 52, 57, 61, 64] := by decide) : sC f = sM f := h.1 f hf
theorem qR.r {sC sM : Nat → Int32} {rC rM : Nat → Nat → Int32} (h : qR sC rC sM rM) (f : Nat) (hf : f ∈ [2, 3, 4, 5, 7, 8, 9, 10, 11, 12, 13, 15, 16, 17, 18, 19, 20, 21, 22, 23, 24, 25, 27, 28, 29, 30, 31, 32, 33, 34, 35, 36, 37, 38, 41, 42, 43, 44, 45, 46, 47, 48, 49, 50, 51, 58, 59, 60] := by decide) : rC f = rM f := h.2 f hf
theorem px_le (c : Int32) {sC sM : Nat → Int32} (h : sC 39 = sM 39) : hC [eI] (xLe c sC) = kLe c sM := by
  unfold xLe kLe xNm
  rw [h]
  by_cases c0 : fIs (sM 39) c = 0
  · rw [if_pos c0, if_pos c0]; decide +kernel
  · rw [if_neg c0, if_neg c0]; rfl
theorem px_og (k : Int32) {sC sM : Nat → Int32} {rC rM : Nat → Nat → Int32} (h : sC 14 = sM 14) (h2 : rC 15 = rM 15) : hC [eI, eS] (xOg k sC rC) = kOg k sM rM := by
  unfold xOg kOg
  rw [h, h2]
  by_cases c0 : fIs (sM 14) k = 0
  · rw [if_pos c0, if_pos c0]; decide +kernel
  rw [if_neg c0, if_neg c0]
  by_cases c1 : rM 15 (Int32.toNatClampNeg k) = 1
  · rw [if_pos c1, if_pos c1]; rfl
  · rw [if_neg c1, if_neg c1]; decide +kernel
section QRC
variable {sC sM : Nat → Int32} {rC rM : Nat → Nat → Int32}
theorem wAt_q (h : qR sC rC sM rM) (lst x : Int32) : wAt lst sC rC x = wAt lst sM rM x := by
  unfold wAt
  simp only [h.s 1, h.r 2, h.r 3, h.r 4, h.r 5]
theorem goF_q (h : qR sC rC sM rM) (lst : Int32) : ∀ n p x, goF lst sC rC n p x = goF lst sM rM n p x
  | 0, _, _ => rfl
  | n + 1, p, x => by
    unfold goF
    rw [wAt_q h, goF_q h lst n]
theorem fGo_q (h : qR sC rC sM rM) (x lst : Int32) : fGo x lst sC rC = fGo x lst sM rM := goF_q h lst 61 60 x
theorem pl_v (h : qR sC rC sM rM) (c q : Int32) (hn : ¬ fIs (sM 39) c = 0) : hgV (Int32.toNatClampNeg c) q sC rC = vLe c q sM rM := by
  unfold hgV vLe
  rw [if_neg hn, h.r 46, fGo_q h]
end QRC
