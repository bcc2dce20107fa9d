/-! origin: a hive that agrees -/
theorem aw_ag {i j : Nat} {sw mk : Int32} {rC rM : Nat → Nat → Int32} (hr : ∀ f, f ∈ [7, 8, 11, 13, 18, 19, 24] → rC f = rM f) (hj : sw.toNatClampNeg = j) (hi : i ≤ 60) (hm : mk = rM 47 (Int32.toNatClampNeg (rM 25 j)))
    (ht : ¬ rM 13 i = -1 → 0 ≤ (rM 13 i).toInt ∧ (rM 13 i).toInt ≤ 743) (ht2 : 0 ≤ (rM 24 j).toInt ∧ (rM 24 j).toInt ≤ 743)
    (h7 : 0 ≤ (rM 7 i).toInt ∧ (rM 7 i).toInt ≤ 19) (h8 : 0 ≤ (rM 8 i).toInt ∧ (rM 8 i).toInt ≤ 19) (h18 : 0 ≤ (rM 18 j).toInt ∧ (rM 18 j).toInt ≤ 19) (h19 : 0 ≤ (rM 19 j).toInt ∧ (rM 19 j).toInt ≤ 19) : kAw i j mk rC = agP sw rM (nI i) := by
  unfold kAw agP
  rw [hj, ix_nI (by omega), hr 7 (by decide), hr 8 (by decide), hr 11 (by decide), hr 13 (by decide), hr 18 (by decide), hr 19 (by decide), hr 24 (by decide), (kSt_f h7 h8 h18 h19).1, ← hm]
  by_cases c0 : rM 13 i = -1
  · rw [if_pos c0, if_pos c0]
  rw [if_neg c0, if_neg c0]
  have b := ht c0
  have e : (rM 24 j - rM 13 i).toInt = (rM 24 j).toInt - (rM 13 i).toInt := t_sub (by omega) (by omega)
  have z0 : (0 : Int32).toInt = 0 := by decide
  have z6 : (60 : Int32).toInt = 60 := by decide
  by_cases c1 : rM 24 j < rM 13 i
  · rw [if_pos c1]
    have q : fIn (rM 24 j - rM 13 i) 0 60 = 0 := if_pos (by rw [Int32.lt_iff_toInt_lt] at c1 ⊢; omega)
    rw [if_pos q]
  rw [if_neg c1]
  have n1 : ¬ rM 24 j - rM 13 i < 0 := fun q => c1 (by rw [Int32.lt_iff_toInt_lt] at q ⊢; omega)
  by_cases c2 : rM 24 j - rM 13 i ≤ 60
  · have q : ¬ fIn (rM 24 j - rM 13 i) 0 60 = 0 := by
      unfold fIn
      rw [if_neg n1, if_neg (fun q => by rw [Int32.lt_iff_toInt_lt] at q; rw [Int32.le_iff_toInt_le] at c2; omega)]
      decide
    rw [if_neg q, if_pos c2]
  · have q : fIn (rM 24 j - rM 13 i) 0 60 = 0 := by
      unfold fIn
      rw [if_neg n1, if_pos (by rw [Int32.lt_iff_toInt_lt]; rw [Int32.le_iff_toInt_le] at c2; omega)]
    rw [if_pos q, if_neg c2]
