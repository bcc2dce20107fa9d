/-! count -/
section QRN
variable {sC sM : Nat → Int32} {rC rM : Nat → Nat → Int32}
theorem cnS_q (h : rC 15 = rM 15) (st : Int32) : ∀ n, cnS rC st n = cnS rM st n
  | 0 => rfl
  | n + 1 => by
    unfold cnS
    rw [cnS_q h st n, h]
theorem opN_q (h : rC 41 = rM 41) : ∀ n, opN rC n = opN rM n
  | 0 => rfl
  | n + 1 => by
    unfold opN
    rw [opN_q h n, h]
theorem hbN_q (h : rC 9 = rM 9) : ∀ n, hbN rC n = hbN rM n
  | 0 => rfl
  | n + 1 => by
    unfold hbN
    rw [hbN_q h n, h]
theorem kbS_q (h : rC 15 = rM 15) (h2 : rC 17 = rM 17) (z : Int32) : ∀ n, (∀ j, j < n → rM 15 j = 0 ∨ rM 15 j = 1 ∨ rM 15 j = 2) → kbS rC z n = sbN rM z n
  | 0, _ => rfl
  | n + 1, hs => by
    unfold kbS sbN
    rw [kbS_q h h2 z n (fun j hj => hs j (by omega)), h, h2]
    rcases hs n (by omega) with e | e | e
    · rw [e, if_neg (by decide), if_neg (by decide)]
    · rw [e, if_neg (by decide), if_neg (by decide)]
    · rw [e, if_pos rfl, if_pos (by decide), Int32.add_zero]
theorem pc_v (h : qR sC rC sM rM) (hs : ∀ j, j < (sM 14).toNatClampNeg → rM 15 j = 0 ∨ rM 15 j = 1 ∨ rM 15 j = 2) (w : Int32) : vKc w sC rC = vCn w sM rM := by
  unfold vKc vCn beN
  rw [h.s 1, h.s 6, h.s 14, h.s 26, h.s 39, h.s 40, h.s 52, cnS_q (h.r 15) 0, cnS_q (h.r 15) 1, cnS_q (h.r 15) 2, opN_q (h.r 41), hbN_q (h.r 9), kbS_q (h.r 15) (h.r 17) _ _ hs]
end QRN
