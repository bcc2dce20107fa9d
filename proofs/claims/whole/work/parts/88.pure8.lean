/-! what is against a keeper; the hours of the way -/
section QRG
variable {sC sM : Nat → Int32} {rC rM : Nat → Nat → Int32}
theorem ag_q (h : qR sC rC sM rM) {k c : Int32} {i j : Nat} (hi : k.toNatClampNeg = i) (hj : c.toNatClampNeg = j) (hb : 0 ≤ (rM 29 i).toInt) : kAg i j sC rC = fAg k c sM rM := by
  unfold kAg fAg fOn kOd fIn
  rw [hi, hj, h.s 1, h.r 29, h.r 30, h.r 32, h.r 33, h.r 34, h.r 45]
  have e : ∀ a b : Int32, (if 1 ≤ rM 29 i then a else b) = if rM 29 i = 0 then b else a := by
    intro a b
    by_cases z : rM 29 i = 0
    · rw [if_pos z, if_neg (by rw [z]; decide)]
    · rw [if_neg z, if_pos]
      rw [Int32.le_iff_toInt_le]
      have z1 : (1 : Int32).toInt = 1 := by decide
      have z2 : ¬ (rM 29 i).toInt = 0 := fun q => z (Int32.toInt_inj.mp (by rw [q]; decide))
      omega
  rw [e]
theorem wa_q (h : qR sC rC sM rM) {k c : Int32} {i j : Nat} (hi : k.toNatClampNeg = i) (hj : c.toNatClampNeg = j) (hp : 1 ≤ (rM 31 i).toInt ∧ (rM 31 i).toInt ≤ 10)
    (h1 : 0 ≤ (rM 27 i).toInt ∧ (rM 27 i).toInt ≤ 19) (h2 : 0 ≤ (rM 28 i).toInt ∧ (rM 28 i).toInt ≤ 19) (h3 : 0 ≤ (rM 42 j).toInt ∧ (rM 42 j).toInt ≤ 19) (h4 : 0 ≤ (rM 43 j).toInt ∧ (rM 43 j).toInt ≤ 19) : kHt i (rC 42 j) (rC 43 j) rC = fWa k c rM := by
  unfold kHt fWa wSt
  obtain ⟨q1, d, hd, q2⟩ := kSt_f h1 h2 h3 h4
  rw [hi, hj, h.r 27, h.r 28, h.r 31, h.r 42, h.r 43, q1, q2]
  exact ht_wo hd hp
end QRG
