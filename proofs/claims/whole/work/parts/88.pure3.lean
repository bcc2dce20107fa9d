/-! feed -/
theorem n_p0 (x : Int32) : x + nI 0 = x := Int32.add_zero x
theorem n_p1 (x : Int32) : x + nI 1 = x + 1 := by rw [show nI 1 = (1 : Int32) from by decide]
theorem n_p2 (x : Int32) : x + nI 2 = x + 1 + 1 := by rw [show nI 2 = (1 + 1 : Int32) from by decide]; simp only [← Int32.add_assoc]
theorem n_p3 (x : Int32) : x + nI 3 = x + 1 + 1 + 1 := by rw [show nI 3 = (1 + 1 + 1 : Int32) from by decide]; simp only [← Int32.add_assoc]
theorem n_p4 (x : Int32) : x + nI 4 = x + 1 + 1 + 1 + 1 := by rw [show nI 4 = (1 + 1 + 1 + 1 : Int32) from by decide]; simp only [← Int32.add_assoc]
theorem n_p5 (x : Int32) : x + nI 5 = x + 1 + 1 + 1 + 1 + 1 := by rw [show nI 5 = (1 + 1 + 1 + 1 + 1 : Int32) from by decide]; simp only [← Int32.add_assoc]
theorem n_p6 (x : Int32) : x + nI 6 = x + 1 + 1 + 1 + 1 + 1 + 1 := by rw [show nI 6 = (1 + 1 + 1 + 1 + 1 + 1 : Int32) from by decide]; simp only [← Int32.add_assoc]
theorem n_p7 (x : Int32) : x + nI 7 = x + 1 + 1 + 1 + 1 + 1 + 1 + 1 := by rw [show nI 7 = (1 + 1 + 1 + 1 + 1 + 1 + 1 : Int32) from by decide]; simp only [← Int32.add_assoc]
theorem n_p8 (x : Int32) : x + nI 8 = x + 1 + 1 + 1 + 1 + 1 + 1 + 1 + 1 := by rw [show nI 8 = (1 + 1 + 1 + 1 + 1 + 1 + 1 + 1 : Int32) from by decide]; simp only [← Int32.add_assoc]
theorem n_p9 (x : Int32) : x + nI 9 = x + 1 + 1 + 1 + 1 + 1 + 1 + 1 + 1 + 1 := by rw [show nI 9 = (1 + 1 + 1 + 1 + 1 + 1 + 1 + 1 + 1 : Int32) from by decide]; simp only [← Int32.add_assoc]
theorem n_p10 (x : Int32) : x + nI 10 = x + 1 + 1 + 1 + 1 + 1 + 1 + 1 + 1 + 1 + 1 := by rw [show nI 10 = (1 + 1 + 1 + 1 + 1 + 1 + 1 + 1 + 1 + 1 : Int32) from by decide]; simp only [← Int32.add_assoc]
theorem n_p11 (x : Int32) : x + nI 11 = x + 1 + 1 + 1 + 1 + 1 + 1 + 1 + 1 + 1 + 1 + 1 := by rw [show nI 11 = (1 + 1 + 1 + 1 + 1 + 1 + 1 + 1 + 1 + 1 + 1 : Int32) from by decide]; simp only [← Int32.add_assoc]
theorem n_p12 (x : Int32) : x + nI 12 = x + 1 + 1 + 1 + 1 + 1 + 1 + 1 + 1 + 1 + 1 + 1 + 1 := by rw [show nI 12 = (1 + 1 + 1 + 1 + 1 + 1 + 1 + 1 + 1 + 1 + 1 + 1 : Int32) from by decide]; simp only [← Int32.add_assoc]
theorem n_p13 (x : Int32) : x + nI 13 = x + 1 + 1 + 1 + 1 + 1 + 1 + 1 + 1 + 1 + 1 + 1 + 1 + 1 := by rw [show nI 13 = (1 + 1 + 1 + 1 + 1 + 1 + 1 + 1 + 1 + 1 + 1 + 1 + 1 : Int32) from by decide]; simp only [← Int32.add_assoc]
theorem n_p14 (x : Int32) : x + nI 14 = x + 1 + 1 + 1 + 1 + 1 + 1 + 1 + 1 + 1 + 1 + 1 + 1 + 1 + 1 := by rw [show nI 14 = (1 + 1 + 1 + 1 + 1 + 1 + 1 + 1 + 1 + 1 + 1 + 1 + 1 + 1 : Int32) from by decide]; simp only [← Int32.add_assoc]
theorem n_p15 (x : Int32) : x + nI 15 = x + 1 + 1 + 1 + 1 + 1 + 1 + 1 + 1 + 1 + 1 + 1 + 1 + 1 + 1 + 1 := by rw [show nI 15 = (1 + 1 + 1 + 1 + 1 + 1 + 1 + 1 + 1 + 1 + 1 + 1 + 1 + 1 + 1 : Int32) from by decide]; simp only [← Int32.add_assoc]
theorem n_p16 (x : Int32) : x + nI 16 = x + 1 + 1 + 1 + 1 + 1 + 1 + 1 + 1 + 1 + 1 + 1 + 1 + 1 + 1 + 1 + 1 := by rw [show nI 16 = (1 + 1 + 1 + 1 + 1 + 1 + 1 + 1 + 1 + 1 + 1 + 1 + 1 + 1 + 1 + 1 : Int32) from by decide]; simp only [← Int32.add_assoc]
theorem n_p17 (x : Int32) : x + nI 17 = x + 1 + 1 + 1 + 1 + 1 + 1 + 1 + 1 + 1 + 1 + 1 + 1 + 1 + 1 + 1 + 1 + 1 := by rw [show nI 17 = (1 + 1 + 1 + 1 + 1 + 1 + 1 + 1 + 1 + 1 + 1 + 1 + 1 + 1 + 1 + 1 + 1 : Int32) from by decide]; simp only [← Int32.add_assoc]
theorem n_p18 (x : Int32) : x + nI 18 = x + 1 + 1 + 1 + 1 + 1 + 1 + 1 + 1 + 1 + 1 + 1 + 1 + 1 + 1 + 1 + 1 + 1 + 1 := by rw [show nI 18 = (1 + 1 + 1 + 1 + 1 + 1 + 1 + 1 + 1 + 1 + 1 + 1 + 1 + 1 + 1 + 1 + 1 + 1 : Int32) from by decide]; simp only [← Int32.add_assoc]
theorem n_p19 (x : Int32) : x + nI 19 = x + 1 + 1 + 1 + 1 + 1 + 1 + 1 + 1 + 1 + 1 + 1 + 1 + 1 + 1 + 1 + 1 + 1 + 1 + 1 := by rw [show nI 19 = (1 + 1 + 1 + 1 + 1 + 1 + 1 + 1 + 1 + 1 + 1 + 1 + 1 + 1 + 1 + 1 + 1 + 1 + 1 : Int32) from by decide]; simp only [← Int32.add_assoc]
theorem n_p20 (x : Int32) : x + nI 20 = x + 1 + 1 + 1 + 1 + 1 + 1 + 1 + 1 + 1 + 1 + 1 + 1 + 1 + 1 + 1 + 1 + 1 + 1 + 1 + 1 := by rw [show nI 20 = (1 + 1 + 1 + 1 + 1 + 1 + 1 + 1 + 1 + 1 + 1 + 1 + 1 + 1 + 1 + 1 + 1 + 1 + 1 + 1 : Int32) from by decide]; simp only [← Int32.add_assoc]
theorem kRo_le {s s' : Nat → Int32} (h : s 61 = s' 61) : kRo 20 s = 0 ↔ ¬ s' 61 + 20 ≤ 400 := by
  unfold kRo
  rw [h, Int32.le_iff_toInt_le]
  by_cases c : 400 < s' 61 + 20
  · rw [if_pos c]
    rw [Int32.lt_iff_toInt_lt] at c
    exact ⟨fun _ q => by omega, fun _ => rfl⟩
  · rw [if_neg c]
    rw [Int32.lt_iff_toInt_lt] at c
    exact ⟨fun q => absurd q (by decide), fun q => absurd (by omega) q⟩
theorem pf_v {s s' : Nat → Int32} (h : s 61 = s' 61) : kFv s = vFd s' := by
  unfold kFv vFd
  by_cases c : s' 61 + 20 ≤ 400
  · rw [if_neg (fun q => (kRo_le h).mp q c), if_pos c]
    show s 61 + 1 + 1 + 1 + 1 + 1 + 1 + 1 + 1 + 1 + 1 + 1 + 1 + 1 + 1 + 1 + 1 + 1 + 1 + 1 + 1 = s' 61 + nI 20
    rw [n_p20, h]
  · rw [if_pos ((kRo_le h).mpr c), if_neg c]
theorem pf_s {s s' : Nat → Int32} (h : s 61 = s' 61) : kFs s 61 = sFd s' 61 := by
  unfold kFs sFd
  by_cases c : s' 61 + 20 ≤ 400
  · rw [if_neg (fun q => (kRo_le h).mp q c), if_pos c]
    show s 61 + 1 + 1 + 1 + 1 + 1 + 1 + 1 + 1 + 1 + 1 + 1 + 1 + 1 + 1 + 1 + 1 + 1 + 1 + 1 + 1 = s' 61 + nI 20
    rw [n_p20, h]
  · rw [if_pos ((kRo_le h).mpr c), if_neg c]
    exact h
theorem pf_r0 (a b c d e x : Int32) (r : Nat → Nat → Int32) : up2 (up2 (up2 (up2 (up2 (up2 (up2 (up2 (up2 (up2 (up2 (up2 (up2 (up2 (up2 (up2 (up2 (up2 (up2 (up2 (r) 60 (Int32.toNatClampNeg (x)) ((a >>> (24 &&& 31)) &&& 255)) 60 (Int32.toNatClampNeg (x + 1)) ((a >>> (16 &&& 31)) &&& 255)) 60 (Int32.toNatClampNeg (x + 1 + 1)) ((a >>> (8 &&& 31)) &&& 255)) 60 (Int32.toNatClampNeg (x + 1 + 1 + 1)) ((a >>> (0 &&& 31)) &&& 255)) 60 (Int32.toNatClampNeg (x + 1 + 1 + 1 + 1)) ((b >>> (24 &&& 31)) &&& 255)) 60 (Int32.toNatClampNeg (x + 1 + 1 + 1 + 1 + 1)) ((b >>> (16 &&& 31)) &&& 255)) 60 (Int32.toNatClampNeg (x + 1 + 1 + 1 + 1 + 1 + 1)) ((b >>> (8 &&& 31)) &&& 255)) 60 (Int32.toNatClampNeg (x + 1 + 1 + 1 + 1 + 1 + 1 + 1)) ((b >>> (0 &&& 31)) &&& 255)) 60 (Int32.toNatClampNeg (x + 1 + 1 + 1 + 1 + 1 + 1 + 1 + 1)) ((c >>> (24 &&& 31)) &&& 255)) 60 (Int32.toNatClampNeg (x + 1 + 1 + 1 + 1 + 1 + 1 + 1 + 1 + 1)) ((c >>> (16 &&& 31)) &&& 255)) 60 (Int32.toNatClampNeg (x + 1 + 1 + 1 + 1 + 1 + 1 + 1 + 1 + 1 + 1)) ((c >>> (8 &&& 31)) &&& 255)) 60 (Int32.toNatClampNeg (x + 1 + 1 + 1 + 1 + 1 + 1 + 1 + 1 + 1 + 1 + 1)) ((c >>> (0 &&& 31)) &&& 255)) 60 (Int32.toNatClampNeg (x + 1 + 1 + 1 + 1 + 1 + 1 + 1 + 1 + 1 + 1 + 1 + 1)) ((d >>> (24 &&& 31)) &&& 255)) 60 (Int32.toNatClampNeg (x + 1 + 1 + 1 + 1 + 1 + 1 + 1 + 1 + 1 + 1 + 1 + 1 + 1)) ((d >>> (16 &&& 31)) &&& 255)) 60 (Int32.toNatClampNeg (x + 1 + 1 + 1 + 1 + 1 + 1 + 1 + 1 + 1 + 1 + 1 + 1 + 1 + 1)) ((d >>> (8 &&& 31)) &&& 255)) 60 (Int32.toNatClampNeg (x + 1 + 1 + 1 + 1 + 1 + 1 + 1 + 1 + 1 + 1 + 1 + 1 + 1 + 1 + 1)) ((d >>> (0 &&& 31)) &&& 255)) 60 (Int32.toNatClampNeg (x + 1 + 1 + 1 + 1 + 1 + 1 + 1 + 1 + 1 + 1 + 1 + 1 + 1 + 1 + 1 + 1)) ((e >>> (24 &&& 31)) &&& 255)) 60 (Int32.toNatClampNeg (x + 1 + 1 + 1 + 1 + 1 + 1 + 1 + 1 + 1 + 1 + 1 + 1 + 1 + 1 + 1 + 1 + 1)) ((e >>> (16 &&& 31)) &&& 255)) 60 (Int32.toNatClampNeg (x + 1 + 1 + 1 + 1 + 1 + 1 + 1 + 1 + 1 + 1 + 1 + 1 + 1 + 1 + 1 + 1 + 1 + 1)) ((e >>> (8 &&& 31)) &&& 255)) 60 (Int32.toNatClampNeg (x + 1 + 1 + 1 + 1 + 1 + 1 + 1 + 1 + 1 + 1 + 1 + 1 + 1 + 1 + 1 + 1 + 1 + 1 + 1)) ((e >>> (0 &&& 31)) &&& 255) = up2 (up2 (up2 (up2 (up2 (up2 (up2 (up2 (up2 (up2 (up2 (up2 (up2 (up2 (up2 (up2 (up2 (up2 (up2 (up2 (r) 60 (Int32.toNatClampNeg (x + nI 0)) ((a >>> (24 &&& 31)) &&& 255)) 60 (Int32.toNatClampNeg (x + nI 1)) ((a >>> (16 &&& 31)) &&& 255)) 60 (Int32.toNatClampNeg (x + nI 2)) ((a >>> (8 &&& 31)) &&& 255)) 60 (Int32.toNatClampNeg (x + nI 3)) ((a >>> (0 &&& 31)) &&& 255)) 60 (Int32.toNatClampNeg (x + nI 4)) ((b >>> (24 &&& 31)) &&& 255)) 60 (Int32.toNatClampNeg (x + nI 5)) ((b >>> (16 &&& 31)) &&& 255)) 60 (Int32.toNatClampNeg (x + nI 6)) ((b >>> (8 &&& 31)) &&& 255)) 60 (Int32.toNatClampNeg (x + nI 7)) ((b >>> (0 &&& 31)) &&& 255)) 60 (Int32.toNatClampNeg (x + nI 8)) ((c >>> (24 &&& 31)) &&& 255)) 60 (Int32.toNatClampNeg (x + nI 9)) ((c >>> (16 &&& 31)) &&& 255)) 60 (Int32.toNatClampNeg (x + nI 10)) ((c >>> (8 &&& 31)) &&& 255)) 60 (Int32.toNatClampNeg (x + nI 11)) ((c >>> (0 &&& 31)) &&& 255)) 60 (Int32.toNatClampNeg (x + nI 12)) ((d >>> (24 &&& 31)) &&& 255)) 60 (Int32.toNatClampNeg (x + nI 13)) ((d >>> (16 &&& 31)) &&& 255)) 60 (Int32.toNatClampNeg (x + nI 14)) ((d >>> (8 &&& 31)) &&& 255)) 60 (Int32.toNatClampNeg (x + nI 15)) ((d >>> (0 &&& 31)) &&& 255)) 60 (Int32.toNatClampNeg (x + nI 16)) ((e >>> (24 &&& 31)) &&& 255)) 60 (Int32.toNatClampNeg (x + nI 17)) ((e >>> (16 &&& 31)) &&& 255)) 60 (Int32.toNatClampNeg (x + nI 18)) ((e >>> (8 &&& 31)) &&& 255)) 60 (Int32.toNatClampNeg (x + nI 19)) ((e >>> (0 &&& 31)) &&& 255) := by
  rw [n_p0, n_p1, n_p2, n_p3, n_p4, n_p5, n_p6, n_p7, n_p8, n_p9, n_p10, n_p11, n_p12, n_p13, n_p14, n_p15, n_p16, n_p17, n_p18, n_p19]
theorem pf_r {s s' : Nat → Int32} (h : s 61 = s' 61) (a b c d e : Int32) (r : Nat → Nat → Int32) : kFr a b c d e s r = rFd a b c d e s' r := by
  unfold kFr rFd
  by_cases cc : s' 61 + 20 ≤ 400
  · rw [if_neg (fun q => (kRo_le h).mp q cc), if_pos cc]
    exact (pf_r0 a b c d e (s 61) r).trans (by rw [h]; rfl)
  · rw [if_pos ((kRo_le h).mpr cc), if_neg cc]
theorem pe_v (n : Int32) {s s' : Nat → Int32} (h : s 61 = s' 61) : vCt n s = fEn n s' := by
  unfold vCt fEn
  rw [h]
theorem pe_s (n : Int32) {s s' : Nat → Int32} (h : s 61 = s' 61) : sCt n s 61 = sEn n s' 61 := by
  unfold sCt sEn
  rw [h]
  by_cases c : n < 0
  · rw [if_pos c, if_pos c]; exact h
  · rw [if_neg c, if_neg c]
    by_cases c2 : n ≤ s' 61
    · rw [if_pos c2, if_pos c2]; rfl
    · rw [if_neg c2, if_neg c2]; exact h
