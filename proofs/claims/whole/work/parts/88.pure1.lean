/-! the class against the reference: the numbers of what is thrown -/
def hC (cs : List String) (thr : Option String) : Int32 := match thr with
  | none => 0
  | some E => hKd cs E
abbrev eI : String := "java/lang/IndexOutOfBoundsException"
abbrev eA : String := "java/lang/IllegalArgumentException"
abbrev eS : String := "java/lang/IllegalStateException"
abbrev eU : String := "java/lang/UnsupportedOperationException"
abbrev eN : String := "java/util/NoSuchElementException"
theorem px_fo (d a b : Int32) : hC [eI, eA] (xFo d a b) = kFo d a b := by
  unfold xFo kFo
  by_cases c0 : fIn d 0 30 = 0
  · rw [if_pos c0, if_pos c0]; decide +kernel
  rw [if_neg c0, if_neg c0]
  by_cases c1 : fIn a (-20) 40 = 0
  · rw [if_pos c1, if_pos c1]; decide +kernel
  rw [if_neg c1, if_neg c1]
  by_cases c2 : fIn b (-20) 40 = 0
  · rw [if_pos c2, if_pos c2]; decide +kernel
  rw [if_neg c2, if_neg c2]
  by_cases c3 : a ≤ b
  · rw [if_pos c3, if_pos c3]; rfl
  · rw [if_neg c3, if_neg c3]; decide +kernel
theorem px_lk (n k hi w : Int32) : hC [eI, eN] (xLk n k hi w) = kTo n k hi w := by
  unfold xLk kTo xTo
  by_cases c0 : fIs n k = 0
  · rw [if_pos c0, if_pos c0]; decide +kernel
  rw [if_neg c0, if_neg c0]
  by_cases c1 : fIn w 0 hi = 0
  · rw [if_pos c1, if_pos c1]; decide +kernel
  · rw [if_neg c1, if_neg c1]; rfl
theorem px_bo (k n : Int32) (s : Nat → Int32) : hC [eI, eA] (xBo (s 26) k n) = kBo k n s := by
  unfold xBo kBo
  by_cases c0 : fIs (s 26) k = 0
  · rw [if_pos c0, if_pos c0]; decide +kernel
  rw [if_neg c0, if_neg c0]
  by_cases c1 : fIn n 0 20 = 0
  · rw [if_pos c1, if_pos c1]; decide +kernel
  · rw [if_neg c1, if_neg c1]; rfl
theorem px_hs (a : Int32) : hC [eA] (xHs a) = if fIn a 0 100 = 0 then 1 else 0 := by
  unfold xHs
  by_cases c0 : fIn a 0 100 = 0
  · rw [if_pos c0, if_pos c0]; decide +kernel
  · rw [if_neg c0, if_neg c0]; rfl
theorem kPl_x {x y : Int32} (h : fIn x 0 19 = 0) : kPl x y = 0 := if_pos h
theorem kPl_y {x y : Int32} (h : fIn y 0 19 = 0) : kPl x y = 0 := by
  unfold kPl
  by_cases c : fIn x 0 19 = 0
  · exact if_pos c
  · rw [if_neg c, if_pos h]
theorem kPl_n {x y : Int32} (h : ¬ fIn x 0 19 = 0) (h2 : ¬ fIn y 0 19 = 0) : ¬ kPl x y = 0 := by
  unfold kPl
  rw [if_neg h, if_neg h2]
  decide
theorem i_lt20 {x n : Int32} (h : x.toInt ≤ n.toInt) : x < n ↔ ¬ x = n := by
  rw [Int32.lt_iff_toInt_lt]
  constructor
  · intro a b
    subst b
    omega
  · intro a
    have : ¬ x.toInt = n.toInt := fun e => a (Int32.toInt_inj.mp e)
    omega
theorem px_hi (x y b ro mk : Int32) (s : Nat → Int32) (h : (s 6).toInt ≤ 20) : hC [eA, eU] (xHi x y b ro mk s) = kHi x y b ro mk s := by
  unfold xHi kHi
  by_cases c0 : fIn x 0 19 = 0
  · rw [if_pos (kPl_x c0), if_pos c0]; decide +kernel
  rw [if_neg c0]
  by_cases c1 : fIn y 0 19 = 0
  · rw [if_pos (kPl_y c1), if_pos c1]; decide +kernel
  rw [if_neg (kPl_n c0 c1), if_neg c1]
  by_cases c2 : fIn b 0 100000 = 0
  · rw [if_pos c2, if_pos c2]; decide +kernel
  rw [if_neg c2, if_neg c2]
  by_cases c3 : fIn ro 1000 100000 = 0
  · rw [if_pos c3, if_pos c3]; decide +kernel
  rw [if_neg c3, if_neg c3]
  by_cases c4 : fIn mk 0 7 = 0
  · rw [if_pos c4, if_pos c4]; decide +kernel
  rw [if_neg c4, if_neg c4]
  by_cases c5 : s 6 = 20
  · rw [if_neg (fun q => (i_lt20 (n := 20) h).mp q c5), if_pos c5]; decide +kernel
  · rw [if_pos ((i_lt20 (n := 20) h).mpr c5), if_neg c5]; rfl
theorem px_ke (x y b la pa fr to : Int32) (s : Nat → Int32) (h : (s 26).toInt ≤ 12) : hC [eA, eU] (xKe x y b la pa fr to s) = kKe x y b la pa fr to s := by
  unfold xKe kKe
  by_cases c0 : fIn x 0 19 = 0
  · rw [if_pos (kPl_x c0), if_pos c0]; decide +kernel
  rw [if_neg c0]
  by_cases c1 : fIn y 0 19 = 0
  · rw [if_pos (kPl_y c1), if_pos c1]; decide +kernel
  rw [if_neg (kPl_n c0 c1), if_neg c1]
  by_cases c2 : fIn b 0 20 = 0
  · rw [if_pos c2, if_pos c2]; decide +kernel
  rw [if_neg c2, if_neg c2]
  by_cases c3 : fIn la 0 9 = 0
  · rw [if_pos c3, if_pos c3]; decide +kernel
  rw [if_neg c3, if_neg c3]
  by_cases c4 : fIn pa 1 10 = 0
  · rw [if_pos c4, if_pos c4]; decide +kernel
  rw [if_neg c4, if_neg c4]
  by_cases c5 : fIn fr 0 23 = 0
  · rw [if_pos c5, if_pos c5]; decide +kernel
  rw [if_neg c5, if_neg c5]
  by_cases c6 : fIn to 0 23 = 0
  · rw [if_pos c6, if_pos c6]; decide +kernel
  rw [if_neg c6, if_neg c6]
  by_cases c7 : s 26 = 12
  · rw [if_neg (fun q => (i_lt20 (n := 12) h).mp q c7), if_pos c7]; decide +kernel
  · rw [if_pos ((i_lt20 (n := 12) h).mpr c7), if_neg c7]; rfl
theorem px_we (d w b : Int32) (s : Nat → Int32) (h : 0 ≤ (s 1).toInt) : hC [eI, eA, eS] (xWe d w b s) = kWe d w b s := by
  unfold xWe kWe
  by_cases c0 : fIn d 0 30 = 0
  · rw [if_pos c0, if_pos c0]; decide +kernel
  rw [if_neg c0, if_neg c0]
  by_cases c1 : fIn w (-20) 40 = 0
  · rw [if_pos c1, if_pos c1]; decide +kernel
  rw [if_neg c1, if_neg c1]
  by_cases c2 : fIn b 0 100 = 0
  · rw [if_pos c2, if_pos c2]; decide +kernel
  rw [if_neg c2, if_neg c2]
  by_cases c3 : s 1 / 24 < d
  · rw [if_pos c3, if_pos c3]; rfl
  rw [if_neg c3, if_neg c3]
  have hd : ¬ d < 0 := fun q => c0 (if_pos q)
  by_cases c4 : s 1 ≤ 0
  · have e1 : s 1 = 0 := by
      rw [Int32.le_iff_toInt_le] at c4
      exact Int32.toInt_inj.mp (Int.le_antisymm c4 h)
    have e2 : d = 0 := by
      rw [e1, Int32.lt_iff_toInt_lt] at c3
      rw [Int32.lt_iff_toInt_lt] at hd
      have z1 : ((0 : Int32) / 24).toInt = 0 := by decide
      have z2 : (0 : Int32).toInt = 0 := by decide
      exact Int32.toInt_inj.mp (by omega)
    rw [if_pos c4, if_pos e2, if_pos e1]; rfl
  · have e1 : ¬ s 1 = 0 := fun q => c4 (by rw [q]; decide)
    rw [if_neg c4]
    by_cases c5 : d = 0
    · rw [if_pos c5, if_neg e1]; decide +kernel
    · rw [if_neg c5]; decide +kernel
