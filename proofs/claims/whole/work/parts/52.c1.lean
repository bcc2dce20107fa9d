/-! the class's plain methods -/
def kAb (x : Int32) : Int32 := if 0 ≤ x then x else 0 - x
def kSt (x y u v : Int32) : Int32 := if kAb (x - u) < kAb (y - v) then kAb (y - v) else kAb (x - u)
def kHd (d : Int32) : Int32 := if 0 < (if 30 < d then 30 else d) then (if 30 < d then 30 else d) else 0
def kPl (x y : Int32) : Int32 := if fIn x 0 19 = 0 then 0 else if fIn y 0 19 = 0 then 0 else 1
def kDr (a b : Int32) : Int32 := if 0 < (if a + (b - b / 7 * 7) - 3 < 19 then a + (b - b / 7 * 7) - 3 else 19) then (if a + (b - b / 7 * 7) - 3 < 19 then a + (b - b / 7 * 7) - 3 else 19) else 0
theorem fIn_01 (v lo hi : Int32) : fIn v lo hi = 0 ∨ fIn v lo hi = 1 := by
  unfold fIn
  by_cases h1 : v < lo
  · simp [h1]
  · by_cases h2 : hi < v <;> simp [h1, h2]
theorem fIn_nb (v lo hi : Int32) : narrow .boolean (.int (fIn v lo hi)) = .int (fIn v lo hi) := (t_bool (fIn_01 v lo hi)).1
def kRo (n : Int32) (s : Nat → Int32) : Int32 := if 400 < s 61 + n then 0 else 1
def kAe (s : Nat → Int32) : Int32 := if s 103 = 0 then 1 else 0
def kAn (s : Nat → Int32) : Int32 := if s 103 = 2 then 1 else 0
def vCt (n : Int32) (s : Nat → Int32) : Int32 := if n < 0 then 0 else if n ≤ s 61 then 1 else 0
def sCt (n : Int32) (s : Nat → Int32) : Nat → Int32 := if n < 0 then s else if n ≤ s 61 then upd s 61 n else s

set_option maxHeartbeats 4000000 in
set_option maxRecDepth 100000 in
theorem c_X9_isWithin {l : Launch} (v : Int32) (lo : Int32) (hi : Int32)  : pMet l yX9_isWithin wsX9_isWithin 0 0 [.int v, .int lo, .int hi] (some (.int (fIn v lo hi))) := by
  refine Met.ofW (cc := cX9_isWithin) (maxL := 3) (ret := (some .boolean)) (by decide) rfl ?_
  intro p0 e0 s0 m0 args below meth c0 s₁ B hml hv
  obtain ⟨rfl, -⟩ := hv
  have hx := B.exec
  have hb := B.bytes
  have hr := B.returns
  have hts := atoms_spec (ws := wsX9_isWithin) B.pre
  have hown : s0.vm.findClass RX9 = some m0.cls := findClass_of_methodNamed B.named
  have hlocks := B.notSynchronized
  have S : CallFix p0 m0 c0 cX9_isWithin 3 s0 _ wsX9_isWithin RX9 := ⟨hx, hb, hml, hown, hts⟩
  have hl := lv_entry ([.int v, .int lo, .int hi]) (n := 3) (Nat.le_of_ble_eq_true rfl)
  rw [lg_entry_eq]
  generalize (lg_sl ([.int v, .int lo, .int hi]) ++ List.replicate (3 - (lg_sl ([.int v, .int lo, .int hi])).length) Slot.unset).toArray = ls at hl ⊢
  have hl : lv_has ls 3 [(0, .int v), (1, .int lo), (2, .int hi)] := hl
  refine lv_iload_n hx hb dX9_isWithin_0 rfl (lv_at hl 0 rfl) ?_
  refine lv_iload_n hx hb dX9_isWithin_1 rfl (lv_at hl 1 rfl) ?_
  refine lv_icmp_lt (tgt := 14) hx hb dX9_isWithin_2 (by decide) (fun c2 => ?_) (fun c2 => ?_)
  ·
    refine lv_iconst (v := 0) hx hb dX9_isWithin_14 (by decide) ?_
    exact p_zret S hr hlocks (by decide) (congrArg (fun z => some (Value.int z)) (by simp only [fIn, eq_true c2, if_true, if_false])) dX9_isWithin_15
  ·
    refine lv_iload_n hx hb dX9_isWithin_5 rfl (lv_at hl 0 rfl) ?_
    refine lv_iload_n hx hb dX9_isWithin_6 rfl (lv_at hl 2 rfl) ?_
    refine lv_icmp_gt (tgt := 14) hx hb dX9_isWithin_7 (by decide) (fun c7 => ?_) (fun c7 => ?_)
    ·
      refine lv_iconst (v := 0) hx hb dX9_isWithin_14 (by decide) ?_
      exact p_zret S hr hlocks (by decide) (congrArg (fun z => some (Value.int z)) (by simp only [fIn, eq_false c2, eq_true c7, if_true, if_false])) dX9_isWithin_15
    ·
      refine lv_iconst (v := 1) hx hb dX9_isWithin_10 (by decide) ?_
      refine lv_goto (tgt := 15) hx hb dX9_isWithin_11 (by decide) ?_
      exact p_zret S hr hlocks (by decide) (congrArg (fun z => some (Value.int z)) (by simp only [fIn, eq_false c2, eq_false c7, if_true, if_false])) dX9_isWithin_15

set_option maxHeartbeats 4000000 in
set_option maxRecDepth 100000 in
theorem c_X9_isPlace {l : Launch} (x : Int32) (y : Int32)  : pMet l yX9_isPlace wsX9_isPlace 1 22 [.int x, .int y] (some (.int (kPl x y))) := by
  refine Met.ofW (cc := cX9_isPlace) (maxL := 2) (ret := (some .boolean)) (by decide) rfl ?_
  intro p0 e0 s0 m0 args below meth c0 s₁ B hml hv
  obtain ⟨rfl, -⟩ := hv
  have hx := B.exec
  have hb := B.bytes
  have hr := B.returns
  have hts := atoms_spec (ws := wsX9_isPlace) B.pre
  have hown : s0.vm.findClass RX9 = some m0.cls := findClass_of_methodNamed B.named
  have hlocks := B.notSynchronized
  have S : CallFix p0 m0 c0 cX9_isPlace 2 s0 _ wsX9_isPlace RX9 := ⟨hx, hb, hml, hown, hts⟩
  have hl := lv_entry ([.int x, .int y]) (n := 2) (Nat.le_of_ble_eq_true rfl)
  rw [lg_entry_eq]
  generalize (lg_sl ([.int x, .int y]) ++ List.replicate (2 - (lg_sl ([.int x, .int y])).length) Slot.unset).toArray = ls at hl ⊢
  have hl : lv_has ls 2 [(0, .int x), (1, .int y)] := hl
  refine lv_iload_n hx hb dX9_isPlace_0 rfl (lv_at hl 0 rfl) ?_
  refine lv_iconst (v := 0) hx hb dX9_isPlace_1 (by decide) ?_
  refine lv_bipush (v := 19) hx hb dX9_isPlace_2 (by decide) ?_
  refine m_callP (n := 3) (As := [.int x, .int 0, .int 19]) (rest := []) (st1 := .int (fIn x 0 19) :: []) S (c_X9_isWithin x 0 19) gX9_isPlace_X9_isWithin rfl (by decide +kernel) ⟨Nat.le_of_ble_eq_true rfl, Nat.le_of_ble_eq_true rfl⟩ rfl hl.1 rfl (Nat.le_of_ble_eq_true rfl) dX9_isPlace_4 ⟨Nat.zero_le _, Nat.zero_le _⟩ (rfl) ?_
  refine lv_if_eq (tgt := 24) hx hb dX9_isPlace_7 (by decide) (fun c7 => ?_) (fun c7 => ?_)
  ·
    refine lv_iconst (v := 0) hx hb dX9_isPlace_24 (by decide) ?_
    exact p_zret S hr hlocks (by decide) (congrArg (fun z => some (Value.int z)) (by simp only [kPl, eq_true c7, if_true, if_false])) dX9_isPlace_25
  ·
    refine lv_iload_n hx hb dX9_isPlace_10 rfl (lv_at hl 1 rfl) ?_
    refine lv_iconst (v := 0) hx hb dX9_isPlace_11 (by decide) ?_
    refine lv_bipush (v := 19) hx hb dX9_isPlace_12 (by decide) ?_
    refine m_callP (n := 3) (As := [.int y, .int 0, .int 19]) (rest := []) (st1 := .int (fIn y 0 19) :: []) S (c_X9_isWithin y 0 19) gX9_isPlace_X9_isWithin rfl (by decide +kernel) ⟨Nat.le_of_ble_eq_true rfl, Nat.le_of_ble_eq_true rfl⟩ rfl hl.1 rfl (Nat.le_of_ble_eq_true rfl) dX9_isPlace_14 ⟨Nat.zero_le _, Nat.zero_le _⟩ (rfl) ?_
    refine lv_if_eq (tgt := 24) hx hb dX9_isPlace_17 (by decide) (fun c17 => ?_) (fun c17 => ?_)
    ·
      refine lv_iconst (v := 0) hx hb dX9_isPlace_24 (by decide) ?_
      exact p_zret S hr hlocks (by decide) (congrArg (fun z => some (Value.int z)) (by simp only [kPl, eq_false c7, eq_true c17, if_true, if_false])) dX9_isPlace_25
    ·
      refine lv_iconst (v := 1) hx hb dX9_isPlace_20 (by decide) ?_
      refine lv_goto (tgt := 25) hx hb dX9_isPlace_21 (by decide) ?_
      exact p_zret S hr hlocks (by decide) (congrArg (fun z => some (Value.int z)) (by simp only [kPl, eq_false c7, eq_false c17, if_true, if_false])) dX9_isPlace_25

set_option maxHeartbeats 4000000 in
set_option maxRecDepth 100000 in
theorem c_X9_isHourOfDay {l : Launch} (x : Int32)  : pMet l yX9_isHourOfDay wsX9_isHourOfDay 1 22 [.int x] (some (.int (fIn x 0 23))) := by
  refine Met.ofW (cc := cX9_isHourOfDay) (maxL := 1) (ret := (some .boolean)) (by decide) rfl ?_
  intro p0 e0 s0 m0 args below meth c0 s₁ B hml hv
  obtain ⟨rfl, -⟩ := hv
  have hx := B.exec
  have hb := B.bytes
  have hr := B.returns
  have hts := atoms_spec (ws := wsX9_isHourOfDay) B.pre
  have hown : s0.vm.findClass RX9 = some m0.cls := findClass_of_methodNamed B.named
  have hlocks := B.notSynchronized
  have S : CallFix p0 m0 c0 cX9_isHourOfDay 1 s0 _ wsX9_isHourOfDay RX9 := ⟨hx, hb, hml, hown, hts⟩
  have hl := lv_entry ([.int x]) (n := 1) (Nat.le_of_ble_eq_true rfl)
  rw [lg_entry_eq]
  generalize (lg_sl ([.int x]) ++ List.replicate (1 - (lg_sl ([.int x])).length) Slot.unset).toArray = ls at hl ⊢
  have hl : lv_has ls 1 [(0, .int x)] := hl
  refine lv_iload_n hx hb dX9_isHourOfDay_0 rfl (lv_at hl 0 rfl) ?_
  refine lv_iconst (v := 0) hx hb dX9_isHourOfDay_1 (by decide) ?_
  refine lv_bipush (v := 23) hx hb dX9_isHourOfDay_2 (by decide) ?_
  refine m_callP (n := 3) (As := [.int x, .int 0, .int 23]) (rest := []) (st1 := .int (fIn x 0 23) :: []) S (c_X9_isWithin x 0 23) gX9_isHourOfDay_X9_isWithin rfl (by decide +kernel) ⟨Nat.le_of_ble_eq_true rfl, Nat.le_of_ble_eq_true rfl⟩ rfl hl.1 rfl (Nat.le_of_ble_eq_true rfl) dX9_isHourOfDay_4 ⟨Nat.zero_le _, Nat.zero_le _⟩ (rfl) ?_
  exact p_zret S hr hlocks (fIn_nb _ _ _) (congrArg (fun z => some (Value.int z)) (by rfl)) dX9_isHourOfDay_7

set_option maxHeartbeats 4000000 in
set_option maxRecDepth 100000 in
theorem c_X9_districtOf {l : Launch} (x : Int32) (y : Int32)  : pMet l yX9_districtOf wsX9_districtOf 0 0 [.int x, .int y] (some (.int (y / 5 * 4 + x / 5))) := by
  refine Met.ofW (cc := cX9_districtOf) (maxL := 2) (ret := (some .int)) (by decide) rfl ?_
  intro p0 e0 s0 m0 args below meth c0 s₁ B hml hv
  obtain ⟨rfl, -⟩ := hv
  have hx := B.exec
  have hb := B.bytes
  have hr := B.returns
  have hts := atoms_spec (ws := wsX9_districtOf) B.pre
  have hown : s0.vm.findClass RX9 = some m0.cls := findClass_of_methodNamed B.named
  have hlocks := B.notSynchronized
  have S : CallFix p0 m0 c0 cX9_districtOf 2 s0 _ wsX9_districtOf RX9 := ⟨hx, hb, hml, hown, hts⟩
  have hl := lv_entry ([.int x, .int y]) (n := 2) (Nat.le_of_ble_eq_true rfl)
  rw [lg_entry_eq]
  generalize (lg_sl ([.int x, .int y]) ++ List.replicate (2 - (lg_sl ([.int x, .int y])).length) Slot.unset).toArray = ls at hl ⊢
  have hl : lv_has ls 2 [(0, .int x), (1, .int y)] := hl
  refine lv_iload_n hx hb dX9_districtOf_0 rfl (lv_at hl 1 rfl) ?_
  refine lv_iconst (v := 5) hx hb dX9_districtOf_1 (by decide) ?_
  refine lv_idiv hx hb dX9_districtOf_2 (by decide) ?_
  refine lv_iconst (v := 4) hx hb dX9_districtOf_3 (by decide) ?_
  refine lv_imul hx hb dX9_districtOf_4 ?_
  refine lv_iload_n hx hb dX9_districtOf_5 rfl (lv_at hl 0 rfl) ?_
  refine lv_iconst (v := 5) hx hb dX9_districtOf_6 (by decide) ?_
  refine lv_idiv hx hb dX9_districtOf_7 (by decide) ?_
  refine lv_iadd hx hb dX9_districtOf_8 ?_
  exact p_iret S hr hlocks (congrArg (fun z => some (Value.int z)) (by rfl)) dX9_districtOf_9

set_option maxHeartbeats 4000000 in
set_option maxRecDepth 100000 in
theorem c_X9_stepsBetween {l : Launch} (x : Int32) (y : Int32) (u : Int32) (v : Int32)  : pMet l yX9_stepsBetween wsX9_stepsBetween 1 24 [.int x, .int y, .int u, .int v] (some (.int (kSt x y u v))) := by
  refine Met.ofW (cc := cX9_stepsBetween) (maxL := 4) (ret := (some .int)) (by decide) rfl ?_
  intro p0 e0 s0 m0 args below meth c0 s₁ B hml hv
  obtain ⟨rfl, -⟩ := hv
  have hx := B.exec
  have hb := B.bytes
  have hr := B.returns
  have hts := atoms_spec (ws := wsX9_stepsBetween) B.pre
  have hown : s0.vm.findClass RX9 = some m0.cls := findClass_of_methodNamed B.named
  have hlocks := B.notSynchronized
  have S : CallFix p0 m0 c0 cX9_stepsBetween 4 s0 _ wsX9_stepsBetween RX9 := ⟨hx, hb, hml, hown, hts⟩
  have hl := lv_entry ([.int x, .int y, .int u, .int v]) (n := 4) (Nat.le_of_ble_eq_true rfl)
  rw [lg_entry_eq]
  generalize (lg_sl ([.int x, .int y, .int u, .int v]) ++ List.replicate (4 - (lg_sl ([.int x, .int y, .int u, .int v])).length) Slot.unset).toArray = ls at hl ⊢
  have hl : lv_has ls 4 [(0, .int x), (1, .int y), (2, .int u), (3, .int v)] := hl
  refine lv_iload_n hx hb dX9_stepsBetween_0 rfl (lv_at hl 0 rfl) ?_
  refine lv_iload_n hx hb dX9_stepsBetween_1 rfl (lv_at hl 2 rfl) ?_
  refine lv_isub hx hb dX9_stepsBetween_2 ?_
  refine va_mabs hx hb (hml.trans hl.1.symm) hown (hts (.methodLink RX9 433 Lib.Math.abs.name) (by decide +kernel)) (hts (.static Lib.Math.abs.name) (by decide +kernel)) (hts (.initialized "java/lang/Math") (by decide +kernel)) (hts (.code Lib.Math.abs.name Lib.Math.abs.code 1 (some .int)) (by decide +kernel)) (Nat.le_of_ble_eq_true rfl) (Nat.le_of_ble_eq_true rfl) (Nat.zero_le _) (Nat.zero_le _) dX9_stepsBetween_3 ?_
  refine lv_iload_n hx hb dX9_stepsBetween_6 rfl (lv_at hl 1 rfl) ?_
  refine lv_iload_n hx hb dX9_stepsBetween_7 rfl (lv_at hl 3 rfl) ?_
  refine lv_isub hx hb dX9_stepsBetween_8 ?_
  refine va_mabs hx hb (hml.trans hl.1.symm) hown (hts (.methodLink RX9 433 Lib.Math.abs.name) (by decide +kernel)) (hts (.static Lib.Math.abs.name) (by decide +kernel)) (hts (.initialized "java/lang/Math") (by decide +kernel)) (hts (.code Lib.Math.abs.name Lib.Math.abs.code 1 (some .int)) (by decide +kernel)) (Nat.le_of_ble_eq_true rfl) (Nat.le_of_ble_eq_true rfl) (Nat.zero_le _) (Nat.zero_le _) dX9_stepsBetween_9 ?_
  refine va_mmax hx hb (hml.trans hl.1.symm) hown (hts (.methodLink RX9 371 Lib.Math.max.name) (by decide +kernel)) (hts (.static Lib.Math.max.name) (by decide +kernel)) (hts (.initialized "java/lang/Math") (by decide +kernel)) (hts (.code Lib.Math.max.name Lib.Math.max.code 2 (some .int)) (by decide +kernel)) (Nat.le_of_ble_eq_true rfl) (Nat.le_of_ble_eq_true rfl) (Nat.zero_le _) (Nat.zero_le _) dX9_stepsBetween_12 ?_
  exact p_iret S hr hlocks (congrArg (fun z => some (Value.int z)) (by rfl)) dX9_stepsBetween_15

set_option maxHeartbeats 4000000 in
set_option maxRecDepth 100000 in
theorem c_X5_lossAt {l : Launch} (x : Int32)  : pMet l yX5_lossAt wsX5_lossAt 0 0 [.int x] (some (.int (fTa x))) := by
  refine Met.ofW (cc := cX5_lossAt) (maxL := 1) (ret := (some .int)) (by decide) rfl ?_
  intro p0 e0 s0 m0 args below meth c0 s₁ B hml hv
  obtain ⟨rfl, -⟩ := hv
  have hx := B.exec
  have hb := B.bytes
  have hr := B.returns
  have hts := atoms_spec (ws := wsX5_lossAt) B.pre
  have hown : s0.vm.findClass RX5 = some m0.cls := findClass_of_methodNamed B.named
  have hlocks := B.notSynchronized
  have S : CallFix p0 m0 c0 cX5_lossAt 1 s0 _ wsX5_lossAt RX5 := ⟨hx, hb, hml, hown, hts⟩
  have hl := lv_entry ([.int x]) (n := 1) (Nat.le_of_ble_eq_true rfl)
  rw [lg_entry_eq]
  generalize (lg_sl ([.int x]) ++ List.replicate (1 - (lg_sl ([.int x])).length) Slot.unset).toArray = ls at hl ⊢
  have hl : lv_has ls 1 [(0, .int x)] := hl
  refine lv_iload_n hx hb dX5_lossAt_0 rfl (lv_at hl 0 rfl) ?_
  refine lv_bipush (v := 25) hx hb dX5_lossAt_1 (by decide) ?_
  refine lv_icmp_lt (tgt := 8) hx hb dX5_lossAt_3 (by decide) (fun c3 => ?_) (fun c3 => ?_)
  ·
    refine lv_iload_n hx hb dX5_lossAt_8 rfl (lv_at hl 0 rfl) ?_
    refine lv_bipush (v := 18) hx hb dX5_lossAt_9 (by decide) ?_
    refine lv_icmp_lt (tgt := 18) hx hb dX5_lossAt_11 (by decide) (fun c11 => ?_) (fun c11 => ?_)
    ·
      refine lv_iconst (v := 1) hx hb dX5_lossAt_18 (by decide) ?_
      exact p_iret S hr hlocks (congrArg (fun z => some (Value.int z)) (by simp only [fTa, eq_true c3, eq_true c11, if_true, if_false])) dX5_lossAt_19
    ·
      refine lv_iconst (v := 2) hx hb dX5_lossAt_14 (by decide) ?_
      refine lv_goto (tgt := 19) hx hb dX5_lossAt_15 (by decide) ?_
      exact p_iret S hr hlocks (congrArg (fun z => some (Value.int z)) (by simp only [fTa, eq_true c3, eq_false c11, if_true, if_false])) dX5_lossAt_19
  ·
    refine lv_iconst (v := 3) hx hb dX5_lossAt_6 (by decide) ?_
    exact p_iret S hr hlocks (congrArg (fun z => some (Value.int z)) (by simp only [fTa, eq_false c3, if_true, if_false])) dX5_lossAt_7

set_option maxHeartbeats 4000000 in
set_option maxRecDepth 100000 in
theorem c_X5_held {l : Launch} (x : Int32)  : pMet l yX5_held wsX5_held 1 24 [.int x] (some (.int (kHd x))) := by
  refine Met.ofW (cc := cX5_held) (maxL := 1) (ret := (some .int)) (by decide) rfl ?_
  intro p0 e0 s0 m0 args below meth c0 s₁ B hml hv
  obtain ⟨rfl, -⟩ := hv
  have hx := B.exec
  have hb := B.bytes
  have hr := B.returns
  have hts := atoms_spec (ws := wsX5_held) B.pre
  have hown : s0.vm.findClass RX5 = some m0.cls := findClass_of_methodNamed B.named
  have hlocks := B.notSynchronized
  have S : CallFix p0 m0 c0 cX5_held 1 s0 _ wsX5_held RX5 := ⟨hx, hb, hml, hown, hts⟩
  have hl := lv_entry ([.int x]) (n := 1) (Nat.le_of_ble_eq_true rfl)
  rw [lg_entry_eq]
  generalize (lg_sl ([.int x]) ++ List.replicate (1 - (lg_sl ([.int x])).length) Slot.unset).toArray = ls at hl ⊢
  have hl : lv_has ls 1 [(0, .int x)] := hl
  refine lv_iconst (v := 0) hx hb dX5_held_0 (by decide) ?_
  refine lv_iload_n hx hb dX5_held_1 rfl (lv_at hl 0 rfl) ?_
  refine lv_bipush (v := 30) hx hb dX5_held_2 (by decide) ?_
  refine va_mmin hx hb (hml.trans hl.1.symm) hown (hts (.methodLink RX5 48 Lib.Math.min.name) (by decide +kernel)) (hts (.static Lib.Math.min.name) (by decide +kernel)) (hts (.initialized "java/lang/Math") (by decide +kernel)) (hts (.code Lib.Math.min.name Lib.Math.min.code 2 (some .int)) (by decide +kernel)) (Nat.le_of_ble_eq_true rfl) (Nat.le_of_ble_eq_true rfl) (Nat.zero_le _) (Nat.zero_le _) dX5_held_4 ?_
  refine va_mmax hx hb (hml.trans hl.1.symm) hown (hts (.methodLink RX5 54 Lib.Math.max.name) (by decide +kernel)) (hts (.static Lib.Math.max.name) (by decide +kernel)) (hts (.initialized "java/lang/Math") (by decide +kernel)) (hts (.code Lib.Math.max.name Lib.Math.max.code 2 (some .int)) (by decide +kernel)) (Nat.le_of_ble_eq_true rfl) (Nat.le_of_ble_eq_true rfl) (Nat.zero_le _) (Nat.zero_le _) dX5_held_7 ?_
  exact p_iret S hr hlocks (congrArg (fun z => some (Value.int z)) (by rfl)) dX5_held_10

set_option maxHeartbeats 4000000 in
set_option maxRecDepth 100000 in
theorem c_X6_drifted {l : Launch} (x : Int32) (y : Int32)  : pMet l yX6_drifted wsX6_drifted 1 24 [.int x, .int y] (some (.int (kDr x y))) := by
  refine Met.ofW (cc := cX6_drifted) (maxL := 2) (ret := (some .int)) (by decide) rfl ?_
  intro p0 e0 s0 m0 args below meth c0 s₁ B hml hv
  obtain ⟨rfl, -⟩ := hv
  have hx := B.exec
  have hb := B.bytes
  have hr := B.returns
  have hts := atoms_spec (ws := wsX6_drifted) B.pre
  have hown : s0.vm.findClass RX6 = some m0.cls := findClass_of_methodNamed B.named
  have hlocks := B.notSynchronized
  have S : CallFix p0 m0 c0 cX6_drifted 2 s0 _ wsX6_drifted RX6 := ⟨hx, hb, hml, hown, hts⟩
  have hl := lv_entry ([.int x, .int y]) (n := 2) (Nat.le_of_ble_eq_true rfl)
  rw [lg_entry_eq]
  generalize (lg_sl ([.int x, .int y]) ++ List.replicate (2 - (lg_sl ([.int x, .int y])).length) Slot.unset).toArray = ls at hl ⊢
  have hl : lv_has ls 2 [(0, .int x), (1, .int y)] := hl
  refine lv_iconst (v := 0) hx hb dX6_drifted_0 (by decide) ?_
  refine lv_bipush (v := 19) hx hb dX6_drifted_1 (by decide) ?_
  refine lv_iload_n hx hb dX6_drifted_3 rfl (lv_at hl 0 rfl) ?_
  refine lv_iload_n hx hb dX6_drifted_4 rfl (lv_at hl 1 rfl) ?_
  refine lv_bipush (v := 7) hx hb dX6_drifted_5 (by decide) ?_
  refine lv_irem hx hb dX6_drifted_7 (by decide) ?_
  refine lv_iadd hx hb dX6_drifted_8 ?_
  refine lv_iconst (v := 3) hx hb dX6_drifted_9 (by decide) ?_
  refine lv_isub hx hb dX6_drifted_10 ?_
  refine va_mmin hx hb (hml.trans hl.1.symm) hown (hts (.methodLink RX6 54 Lib.Math.min.name) (by decide +kernel)) (hts (.static Lib.Math.min.name) (by decide +kernel)) (hts (.initialized "java/lang/Math") (by decide +kernel)) (hts (.code Lib.Math.min.name Lib.Math.min.code 2 (some .int)) (by decide +kernel)) (Nat.le_of_ble_eq_true rfl) (Nat.le_of_ble_eq_true rfl) (Nat.zero_le _) (Nat.zero_le _) dX6_drifted_11 ?_
  refine va_mmax hx hb (hml.trans hl.1.symm) hown (hts (.methodLink RX6 59 Lib.Math.max.name) (by decide +kernel)) (hts (.static Lib.Math.max.name) (by decide +kernel)) (hts (.initialized "java/lang/Math") (by decide +kernel)) (hts (.code Lib.Math.max.name Lib.Math.max.code 2 (some .int)) (by decide +kernel)) (Nat.le_of_ble_eq_true rfl) (Nat.le_of_ble_eq_true rfl) (Nat.zero_le _) (Nat.zero_le _) dX6_drifted_14 ?_
  exact p_iret S hr hlocks (congrArg (fun z => some (Value.int z)) (by rfl)) dX6_drifted_17

set_option maxHeartbeats 4000000 in
set_option maxRecDepth 100000 in
theorem c_X7_isLetter {l : Launch} (x : Int32)  : pMet l yX7_isLetter wsX7_isLetter 0 0 [.int x] (some (.int (fLe x))) := by
  refine Met.ofW (cc := cX7_isLetter) (maxL := 1) (ret := (some .boolean)) (by decide) rfl ?_
  intro p0 e0 s0 m0 args below meth c0 s₁ B hml hv
  obtain ⟨rfl, -⟩ := hv
  have hx := B.exec
  have hb := B.bytes
  have hr := B.returns
  have hts := atoms_spec (ws := wsX7_isLetter) B.pre
  have hown : s0.vm.findClass RX7 = some m0.cls := findClass_of_methodNamed B.named
  have hlocks := B.notSynchronized
  have S : CallFix p0 m0 c0 cX7_isLetter 1 s0 _ wsX7_isLetter RX7 := ⟨hx, hb, hml, hown, hts⟩
  have hl := lv_entry ([.int x]) (n := 1) (Nat.le_of_ble_eq_true rfl)
  rw [lg_entry_eq]
  generalize (lg_sl ([.int x]) ++ List.replicate (1 - (lg_sl ([.int x])).length) Slot.unset).toArray = ls at hl ⊢
  have hl : lv_has ls 1 [(0, .int x)] := hl
  refine lv_iload_n hx hb dX7_isLetter_0 rfl (lv_at hl 0 rfl) ?_
  refine lv_bipush (v := 97) hx hb dX7_isLetter_1 (by decide) ?_
  refine lv_icmp_lt (tgt := 16) hx hb dX7_isLetter_3 (by decide) (fun c3 => ?_) (fun c3 => ?_)
  ·
    refine lv_iconst (v := 0) hx hb dX7_isLetter_16 (by decide) ?_
    exact p_zret S hr hlocks (by decide) (congrArg (fun z => some (Value.int z)) (by simp only [fLe, eq_true c3, if_true, if_false])) dX7_isLetter_17
  ·
    refine lv_iload_n hx hb dX7_isLetter_6 rfl (lv_at hl 0 rfl) ?_
    refine lv_bipush (v := 122) hx hb dX7_isLetter_7 (by decide) ?_
    refine lv_icmp_gt (tgt := 16) hx hb dX7_isLetter_9 (by decide) (fun c9 => ?_) (fun c9 => ?_)
    ·
      refine lv_iconst (v := 0) hx hb dX7_isLetter_16 (by decide) ?_
      exact p_zret S hr hlocks (by decide) (congrArg (fun z => some (Value.int z)) (by simp only [fLe, eq_false c3, eq_true c9, if_true, if_false])) dX7_isLetter_17
    ·
      refine lv_iconst (v := 1) hx hb dX7_isLetter_12 (by decide) ?_
      refine lv_goto (tgt := 17) hx hb dX7_isLetter_13 (by decide) ?_
      exact p_zret S hr hlocks (by decide) (congrArg (fun z => some (Value.int z)) (by simp only [fLe, eq_false c3, eq_false c9, if_true, if_false])) dX7_isLetter_17

set_option maxHeartbeats 4000000 in
set_option maxRecDepth 100000 in
theorem c_X7_isDigit {l : Launch} (x : Int32)  : pMet l yX7_isDigit wsX7_isDigit 0 0 [.int x] (some (.int (fDi x))) := by
  refine Met.ofW (cc := cX7_isDigit) (maxL := 1) (ret := (some .boolean)) (by decide) rfl ?_
  intro p0 e0 s0 m0 args below meth c0 s₁ B hml hv
  obtain ⟨rfl, -⟩ := hv
  have hx := B.exec
  have hb := B.bytes
  have hr := B.returns
  have hts := atoms_spec (ws := wsX7_isDigit) B.pre
  have hown : s0.vm.findClass RX7 = some m0.cls := findClass_of_methodNamed B.named
  have hlocks := B.notSynchronized
  have S : CallFix p0 m0 c0 cX7_isDigit 1 s0 _ wsX7_isDigit RX7 := ⟨hx, hb, hml, hown, hts⟩
  have hl := lv_entry ([.int x]) (n := 1) (Nat.le_of_ble_eq_true rfl)
  rw [lg_entry_eq]
  generalize (lg_sl ([.int x]) ++ List.replicate (1 - (lg_sl ([.int x])).length) Slot.unset).toArray = ls at hl ⊢
  have hl : lv_has ls 1 [(0, .int x)] := hl
  refine lv_iload_n hx hb dX7_isDigit_0 rfl (lv_at hl 0 rfl) ?_
  refine lv_bipush (v := 48) hx hb dX7_isDigit_1 (by decide) ?_
  refine lv_icmp_lt (tgt := 16) hx hb dX7_isDigit_3 (by decide) (fun c3 => ?_) (fun c3 => ?_)
  ·
    refine lv_iconst (v := 0) hx hb dX7_isDigit_16 (by decide) ?_
    exact p_zret S hr hlocks (by decide) (congrArg (fun z => some (Value.int z)) (by simp only [fDi, eq_true c3, if_true, if_false])) dX7_isDigit_17
  ·
    refine lv_iload_n hx hb dX7_isDigit_6 rfl (lv_at hl 0 rfl) ?_
    refine lv_bipush (v := 57) hx hb dX7_isDigit_7 (by decide) ?_
    refine lv_icmp_gt (tgt := 16) hx hb dX7_isDigit_9 (by decide) (fun c9 => ?_) (fun c9 => ?_)
    ·
      refine lv_iconst (v := 0) hx hb dX7_isDigit_16 (by decide) ?_
      exact p_zret S hr hlocks (by decide) (congrArg (fun z => some (Value.int z)) (by simp only [fDi, eq_false c3, eq_true c9, if_true, if_false])) dX7_isDigit_17
    ·
      refine lv_iconst (v := 1) hx hb dX7_isDigit_12 (by decide) ?_
      refine lv_goto (tgt := 17) hx hb dX7_isDigit_13 (by decide) ?_
      exact p_zret S hr hlocks (by decide) (congrArg (fun z => some (Value.int z)) (by simp only [fDi, eq_false c3, eq_false c9, if_true, if_false])) dX7_isDigit_17

set_option maxHeartbeats 4000000 in
set_option maxRecDepth 100000 in
theorem c_X5_isDay {l : Launch} {D : va_G} {cI cZ cB cO cR cJ : ClassId} {Hb : Heap} {K : kTx} {lv : Nat → Prop} {ad : Nat → Nat} {ce0 : Nat → va_E} (s : Nat → Int32) (r : Nat → Nat → Int32) (hlv : kL lv s) (x : Int32)  : kMet l D cI cZ cB cO cR cJ Hb K lv ad ce0 yX5_isDay wsX5_isDay 1 22 [.int x] s r (some (.int (fIn x 0 30))) s r := by
  refine Met.ofW (cc := cX5_isDay) (maxL := 1) (ret := (some .boolean)) (by decide) rfl ?_
  intro p0 e0 s0 m0 args below meth c0 s₁ B hml hv
  obtain ⟨rfl, hG, hK, hE⟩ := hv
  have hx := B.exec
  have hb := B.bytes
  have hr := B.returns
  have hts := atoms_spec (ws := wsX5_isDay) B.pre
  have hown : s0.vm.findClass RX5 = some m0.cls := findClass_of_methodNamed B.named
  have hlocks := B.notSynchronized
  have S : kX p0 m0 c0 cX5_isDay 1 s0 _ wsX5_isDay RX5 D (tyL cI cZ cB cO cR cJ) Hb K := ⟨⟨hx, hb, hml, hown, hts⟩, hK, hE⟩
  have hL : gL Hb [] := gL.nil
  have hH := hG.2.2.2.2
  have hl := lv_entry ([.int x]) (n := 1) (Nat.le_of_ble_eq_true rfl)
  rw [lg_entry_eq]
  generalize (lg_sl ([.int x]) ++ List.replicate (1 - (lg_sl ([.int x])).length) Slot.unset).toArray = ls at hl ⊢
  have hl : lv_has ls 1 [(0, .int x)] := hl
  refine lv_iload_n hx hb dX5_isDay_0 rfl (lv_at hl 0 rfl) ?_
  refine lv_iconst (v := 0) hx hb dX5_isDay_1 (by decide) ?_
  refine lv_bipush (v := 30) hx hb dX5_isDay_2 (by decide) ?_
  refine k_callPN (n := 3) (As := [.int x, .int 0, .int 30]) (rest := []) (st1 := .int (fIn x 0 30) :: []) S (c_X9_isWithin x 0 30) gX5_isDay_X9_isWithin_n30 rfl (by decide +kernel) (hts (.initialized RX9) (by decide +kernel)) (hts (.static yX9_isWithin) (by decide +kernel)) (by decide +kernel) ⟨Nat.le_of_ble_eq_true rfl, Nat.le_of_ble_eq_true rfl⟩ rfl hl.1 rfl (Nat.le_of_ble_eq_true rfl) dX5_isDay_4 ⟨Nat.zero_le _, Nat.zero_le _⟩ (rfl) ?_
  exact g_zret S.1 hr hlocks (fIn_nb _ _ _) hG hL (congrArg (fun z => some (Value.int z)) (by rfl)) (congr (congrArg (kJ ce0 ad K.2.2.1 cI cB cO cR) (by rfl)) (by rfl)) dX5_isDay_7

set_option maxHeartbeats 4000000 in
set_option maxRecDepth 100000 in
theorem c_X5_isWarmth {l : Launch} {D : va_G} {cI cZ cB cO cR cJ : ClassId} {Hb : Heap} {K : kTx} {lv : Nat → Prop} {ad : Nat → Nat} {ce0 : Nat → va_E} (s : Nat → Int32) (r : Nat → Nat → Int32) (hlv : kL lv s) (x : Int32)  : kMet l D cI cZ cB cO cR cJ Hb K lv ad ce0 yX5_isWarmth wsX5_isWarmth 1 22 [.int x] s r (some (.int (fIn x (-20) 40))) s r := by
  refine Met.ofW (cc := cX5_isWarmth) (maxL := 1) (ret := (some .boolean)) (by decide) rfl ?_
  intro p0 e0 s0 m0 args below meth c0 s₁ B hml hv
  obtain ⟨rfl, hG, hK, hE⟩ := hv
  have hx := B.exec
  have hb := B.bytes
  have hr := B.returns
  have hts := atoms_spec (ws := wsX5_isWarmth) B.pre
  have hown : s0.vm.findClass RX5 = some m0.cls := findClass_of_methodNamed B.named
  have hlocks := B.notSynchronized
  have S : kX p0 m0 c0 cX5_isWarmth 1 s0 _ wsX5_isWarmth RX5 D (tyL cI cZ cB cO cR cJ) Hb K := ⟨⟨hx, hb, hml, hown, hts⟩, hK, hE⟩
  have hL : gL Hb [] := gL.nil
  have hH := hG.2.2.2.2
  have hl := lv_entry ([.int x]) (n := 1) (Nat.le_of_ble_eq_true rfl)
  rw [lg_entry_eq]
  generalize (lg_sl ([.int x]) ++ List.replicate (1 - (lg_sl ([.int x])).length) Slot.unset).toArray = ls at hl ⊢
  have hl : lv_has ls 1 [(0, .int x)] := hl
  refine lv_iload_n hx hb dX5_isWarmth_0 rfl (lv_at hl 0 rfl) ?_
  refine lv_bipush (v := (-20)) hx hb dX5_isWarmth_1 (by decide) ?_
  refine lv_bipush (v := 40) hx hb dX5_isWarmth_3 (by decide) ?_
  refine k_callPN (n := 3) (As := [.int x, .int (-20), .int 40]) (rest := []) (st1 := .int (fIn x (-20) 40) :: []) S (c_X9_isWithin x (-20) 40) gX5_isWarmth_X9_isWithin_n30 rfl (by decide +kernel) (hts (.initialized RX9) (by decide +kernel)) (hts (.static yX9_isWithin) (by decide +kernel)) (by decide +kernel) ⟨Nat.le_of_ble_eq_true rfl, Nat.le_of_ble_eq_true rfl⟩ rfl hl.1 rfl (Nat.le_of_ble_eq_true rfl) dX5_isWarmth_5 ⟨Nat.zero_le _, Nat.zero_le _⟩ (rfl) ?_
  exact g_zret S.1 hr hlocks (fIn_nb _ _ _) hG hL (congrArg (fun z => some (Value.int z)) (by rfl)) (congr (congrArg (kJ ce0 ad K.2.2.1 cI cB cO cR) (by rfl)) (by rfl)) dX5_isWarmth_8

set_option maxHeartbeats 4000000 in
set_option maxRecDepth 100000 in
theorem c_X7_hasRoomFor {l : Launch} {D : va_G} {cI cZ cB cO cR cJ : ClassId} {Hb : Heap} {K : kTx} {lv : Nat → Prop} {ad : Nat → Nat} {ce0 : Nat → va_E} (s : Nat → Int32) (r : Nat → Nat → Int32) (hlv : kL lv s) (n : Int32)  : kMet l D cI cZ cB cO cR cJ Hb K lv ad ce0 yX7_hasRoomFor wsX7_hasRoomFor 0 0 [.ref (ad 101), .int n] s r (some (.int (kRo n s))) s r := by
  refine Met.ofW (cc := cX7_hasRoomFor) (maxL := 2) (ret := (some .boolean)) (by decide) rfl ?_
  intro p0 e0 s0 m0 args below meth c0 s₁ B hml hv
  obtain ⟨rfl, hG, hK, hE⟩ := hv
  have hx := B.exec
  have hb := B.bytes
  have hr := B.returns
  have hts := atoms_spec (ws := wsX7_hasRoomFor) B.pre
  have hown : s0.vm.findClass RX7 = some m0.cls := findClass_of_methodNamed B.named
  have hlocks := B.notSynchronized
  have S : kX p0 m0 c0 cX7_hasRoomFor 2 s0 _ wsX7_hasRoomFor RX7 D (tyL cI cZ cB cO cR cJ) Hb K := ⟨⟨hx, hb, hml, hown, hts⟩, hK, hE⟩
  have hL : gL Hb [] := gL.nil
  have hH := hG.2.2.2.2
  have hl := lv_entry ([.ref (ad 101), .int n]) (n := 2) (Nat.le_of_ble_eq_true rfl)
  rw [lg_entry_eq]
  generalize (lg_sl ([.ref (ad 101), .int n]) ++ List.replicate (2 - (lg_sl ([.ref (ad 101), .int n])).length) Slot.unset).toArray = ls at hl ⊢
  have hl : lv_has ls 2 [(0, .ref (ad 101)), (1, .int n)] := hl
  refine lv_aload_n hx hb dX7_hasRoomFor_0 rfl (lv_at hl 0 rfl) ?_
  refine k_gi (C := RX7) (T := TX7) (N := 5) (ci := 8) (v := s 61) S hG (fun w h => List.mem_cons_of_mem _ (List.mem_append_right _ h)) 101 (hlv.f (by decide) (by decide)) rfl rfl 1 (by decide) rfl (hts (.fieldLink RX7 15 "SwarmLine$Tape" "length" "I") (by decide +kernel)) rfl (rfl) dX7_hasRoomFor_1 ?_
  refine lv_iload_n hx hb dX7_hasRoomFor_4 rfl (lv_at hl 1 rfl) ?_
  refine lv_iadd hx hb dX7_hasRoomFor_5 ?_
  refine lv_sipush (v := 400) hx hb dX7_hasRoomFor_6 (by decide) ?_
  refine lv_icmp_gt (tgt := 16) hx hb dX7_hasRoomFor_9 (by decide) (fun c9 => ?_) (fun c9 => ?_)
  ·
    refine lv_iconst (v := 0) hx hb dX7_hasRoomFor_16 (by decide) ?_
    exact g_zret S.1 hr hlocks (by decide) hG hL (congrArg (fun z => some (Value.int z)) (by simp only [kRo, eq_true c9, if_true, if_false])) (congr (congrArg (kJ ce0 ad K.2.2.1 cI cB cO cR) (by rfl)) (by rfl)) dX7_hasRoomFor_17
  ·
    refine lv_iconst (v := 1) hx hb dX7_hasRoomFor_12 (by decide) ?_
    refine lv_goto (tgt := 17) hx hb dX7_hasRoomFor_13 (by decide) ?_
    exact g_zret S.1 hr hlocks (by decide) hG hL (congrArg (fun z => some (Value.int z)) (by simp only [kRo, eq_false c9, if_true, if_false])) (congr (congrArg (kJ ce0 ad K.2.2.1 cI cB cO cR) (by rfl)) (by rfl)) dX7_hasRoomFor_17

set_option maxHeartbeats 4000000 in
set_option maxRecDepth 100000 in
theorem c_X7_cutTo {l : Launch} {D : va_G} {cI cZ cB cO cR cJ : ClassId} {Hb : Heap} {K : kTx} {lv : Nat → Prop} {ad : Nat → Nat} {ce0 : Nat → va_E} (s : Nat → Int32) (r : Nat → Nat → Int32) (hlv : kL lv s) (n : Int32)  : kMet l D cI cZ cB cO cR cJ Hb K lv ad ce0 yX7_cutTo wsX7_cutTo 0 0 [.ref (ad 101), .int n] s r (some (.int (vCt n s))) (sCt n s) r := by
  refine Met.ofW (cc := cX7_cutTo) (maxL := 2) (ret := (some .boolean)) (by decide) rfl ?_
  intro p0 e0 s0 m0 args below meth c0 s₁ B hml hv
  obtain ⟨rfl, hG, hK, hE⟩ := hv
  have hx := B.exec
  have hb := B.bytes
  have hr := B.returns
  have hts := atoms_spec (ws := wsX7_cutTo) B.pre
  have hown : s0.vm.findClass RX7 = some m0.cls := findClass_of_methodNamed B.named
  have hlocks := B.notSynchronized
  have S : kX p0 m0 c0 cX7_cutTo 2 s0 _ wsX7_cutTo RX7 D (tyL cI cZ cB cO cR cJ) Hb K := ⟨⟨hx, hb, hml, hown, hts⟩, hK, hE⟩
  have hL : gL Hb [] := gL.nil
  have hH := hG.2.2.2.2
  have hl := lv_entry ([.ref (ad 101), .int n]) (n := 2) (Nat.le_of_ble_eq_true rfl)
  rw [lg_entry_eq]
  generalize (lg_sl ([.ref (ad 101), .int n]) ++ List.replicate (2 - (lg_sl ([.ref (ad 101), .int n])).length) Slot.unset).toArray = ls at hl ⊢
  have hl : lv_has ls 2 [(0, .ref (ad 101)), (1, .int n)] := hl
  refine lv_iload_n hx hb dX7_cutTo_0 rfl (lv_at hl 1 rfl) ?_
  refine lv_if_lt (tgt := 12) hx hb dX7_cutTo_1 (by decide) (fun c1 => ?_) (fun c1 => ?_)
  ·
    refine lv_iconst (v := 0) hx hb dX7_cutTo_12 (by decide) ?_
    exact g_zret S.1 hr hlocks (by decide) hG hL (congrArg (fun z => some (Value.int z)) (by simp only [vCt, eq_true c1, if_true, if_false])) (congr (congrArg (kJ ce0 ad K.2.2.1 cI cB cO cR) (by simp only [sCt, eq_true c1, if_true, if_false])) (by rfl)) dX7_cutTo_13
  ·
    refine lv_iload_n hx hb dX7_cutTo_4 rfl (lv_at hl 1 rfl) ?_
    refine lv_aload_n hx hb dX7_cutTo_5 rfl (lv_at hl 0 rfl) ?_
    refine k_gi (C := RX7) (T := TX7) (N := 5) (ci := 8) (v := s 61) S hG (fun w h => List.mem_cons_of_mem _ (List.mem_append_right _ h)) 101 (hlv.f (by decide) (by decide)) rfl rfl 1 (by decide) rfl (hts (.fieldLink RX7 15 "SwarmLine$Tape" "length" "I") (by decide +kernel)) rfl (rfl) dX7_cutTo_6 ?_
    refine lv_icmp_le (tgt := 14) hx hb dX7_cutTo_9 (by decide) (fun c9 => ?_) (fun c9 => ?_)
    ·
      refine lv_aload_n hx hb dX7_cutTo_14 rfl (lv_at hl 0 rfl) ?_
      refine lv_iload_n hx hb dX7_cutTo_15 rfl (lv_at hl 1 rfl) ?_
      refine k_pi (C := RX7) (T := TX7) (N := 5) (ci := 8) (ty := .int) S hG hL (fun w h => List.mem_cons_of_mem _ (List.mem_append_right _ h)) tyX7 tyX7_ok nmX7 101 (hlv.f (by decide) (by decide)) rfl rfl 1 (by decide) rfl (hts (.fieldLink RX7 15 "SwarmLine$Tape" "length" "I") (by decide +kernel)) rfl (by decide +kernel) rfl rfl (Nat.le_of_ble_eq_true rfl) (kw_101_length _) dX7_cutTo_16 (fun H locs hG hL => ?_)
      refine lv_iconst (v := 1) hx hb dX7_cutTo_19 (by decide) ?_
      exact g_zret S.1 hr hlocks (by decide) hG hL (congrArg (fun z => some (Value.int z)) (by simp only [vCt, eq_false c1, eq_true c9, if_true, if_false])) (congr (congrArg (kJ ce0 ad K.2.2.1 cI cB cO cR) (by simp only [sCt, eq_false c1, eq_true c9, if_true, if_false])) (by rfl)) dX7_cutTo_20
    ·
      refine lv_iconst (v := 0) hx hb dX7_cutTo_12 (by decide) ?_
      exact g_zret S.1 hr hlocks (by decide) hG hL (congrArg (fun z => some (Value.int z)) (by simp only [vCt, eq_false c1, eq_false c9, if_true, if_false])) (congr (congrArg (kJ ce0 ad K.2.2.1 cI cB cO cR) (by simp only [sCt, eq_false c1, eq_false c9, if_true, if_false])) (by rfl)) dX7_cutTo_13

set_option maxHeartbeats 4000000 in
set_option maxRecDepth 100000 in
theorem c_X7_rewind {l : Launch} {D : va_G} {cI cZ cB cO cR cJ : ClassId} {Hb : Heap} {K : kTx} {lv : Nat → Prop} {ad : Nat → Nat} {ce0 : Nat → va_E} (s : Nat → Int32) (r : Nat → Nat → Int32) (hlv : kL lv s)   : kMet l D cI cZ cB cO cR cJ Hb K lv ad ce0 yX7_rewind wsX7_rewind 0 0 [.ref (ad 101)] s r none (upd s 102 0) r := by
  refine Met.ofW (cc := cX7_rewind) (maxL := 1) (ret := none) (by decide) rfl ?_
  intro p0 e0 s0 m0 args below meth c0 s₁ B hml hv
  obtain ⟨rfl, hG, hK, hE⟩ := hv
  have hx := B.exec
  have hb := B.bytes
  have hr := B.returns
  have hts := atoms_spec (ws := wsX7_rewind) B.pre
  have hown : s0.vm.findClass RX7 = some m0.cls := findClass_of_methodNamed B.named
  have hlocks := B.notSynchronized
  have S : kX p0 m0 c0 cX7_rewind 1 s0 _ wsX7_rewind RX7 D (tyL cI cZ cB cO cR cJ) Hb K := ⟨⟨hx, hb, hml, hown, hts⟩, hK, hE⟩
  have hL : gL Hb [] := gL.nil
  have hH := hG.2.2.2.2
  have hl := lv_entry ([.ref (ad 101)]) (n := 1) (Nat.le_of_ble_eq_true rfl)
  rw [lg_entry_eq]
  generalize (lg_sl ([.ref (ad 101)]) ++ List.replicate (1 - (lg_sl ([.ref (ad 101)])).length) Slot.unset).toArray = ls at hl ⊢
  have hl : lv_has ls 1 [(0, .ref (ad 101))] := hl
  refine lv_aload_n hx hb dX7_rewind_0 rfl (lv_at hl 0 rfl) ?_
  refine lv_iconst (v := 0) hx hb dX7_rewind_1 (by decide) ?_
  refine k_pi (C := RX7) (T := TX7) (N := 5) (ci := 8) (ty := .int) S hG hL (fun w h => List.mem_cons_of_mem _ (List.mem_append_right _ h)) tyX7 tyX7_ok nmX7 101 (hlv.f (by decide) (by decide)) rfl rfl 3 (by decide) rfl (hts (.fieldLink RX7 22 "SwarmLine$Tape" "behind" "I") (by decide +kernel)) rfl (by decide +kernel) rfl rfl (Nat.le_of_ble_eq_true rfl) (kw_101_behind _) dX7_rewind_2 (fun H locs hG hL => ?_)
  exact g_vret S.1 hr hlocks hG hL rfl (congr (congrArg (kJ ce0 ad K.2.2.1 cI cB cO cR) (by rfl)) (by rfl)) dX7_rewind_5

set_option maxHeartbeats 4000000 in
set_option maxRecDepth 100000 in
theorem c_X7_isAtEnd {l : Launch} {D : va_G} {cI cZ cB cO cR cJ : ClassId} {Hb : Heap} {K : kTx} {lv : Nat → Prop} {ad : Nat → Nat} {ce0 : Nat → va_E} (s : Nat → Int32) (r : Nat → Nat → Int32) (hlv : kL lv s)   : kMet l D cI cZ cB cO cR cJ Hb K lv ad ce0 yX7_isAtEnd wsX7_isAtEnd 0 0 [.ref (ad 101)] s r (some (.int (kAe s))) s r := by
  refine Met.ofW (cc := cX7_isAtEnd) (maxL := 1) (ret := (some .boolean)) (by decide) rfl ?_
  intro p0 e0 s0 m0 args below meth c0 s₁ B hml hv
  obtain ⟨rfl, hG, hK, hE⟩ := hv
  have hx := B.exec
  have hb := B.bytes
  have hr := B.returns
  have hts := atoms_spec (ws := wsX7_isAtEnd) B.pre
  have hown : s0.vm.findClass RX7 = some m0.cls := findClass_of_methodNamed B.named
  have hlocks := B.notSynchronized
  have S : kX p0 m0 c0 cX7_isAtEnd 1 s0 _ wsX7_isAtEnd RX7 D (tyL cI cZ cB cO cR cJ) Hb K := ⟨⟨hx, hb, hml, hown, hts⟩, hK, hE⟩
  have hL : gL Hb [] := gL.nil
  have hH := hG.2.2.2.2
  have hl := lv_entry ([.ref (ad 101)]) (n := 1) (Nat.le_of_ble_eq_true rfl)
  rw [lg_entry_eq]
  generalize (lg_sl ([.ref (ad 101)]) ++ List.replicate (1 - (lg_sl ([.ref (ad 101)])).length) Slot.unset).toArray = ls at hl ⊢
  have hl : lv_has ls 1 [(0, .ref (ad 101))] := hl
  refine lv_aload_n hx hb dX7_isAtEnd_0 rfl (lv_at hl 0 rfl) ?_
  refine k_gi (C := RX7) (T := TX7) (N := 5) (ci := 8) (v := s 103) S hG (fun w h => List.mem_cons_of_mem _ (List.mem_append_right _ h)) 101 (hlv.f (by decide) (by decide)) rfl rfl 4 (by decide) rfl (hts (.fieldLink RX7 25 "SwarmLine$Tape" "kind" "I") (by decide +kernel)) rfl (rfl) dX7_isAtEnd_1 ?_
  refine lv_if_ne (tgt := 11) hx hb dX7_isAtEnd_4 (by decide) (fun c4 => ?_) (fun c4 => ?_)
  ·
    refine lv_iconst (v := 0) hx hb dX7_isAtEnd_11 (by decide) ?_
    exact g_zret S.1 hr hlocks (by decide) hG hL (congrArg (fun z => some (Value.int z)) (by simp only [kAe, eq_false c4, if_true, if_false])) (congr (congrArg (kJ ce0 ad K.2.2.1 cI cB cO cR) (by rfl)) (by rfl)) dX7_isAtEnd_12
  ·
    refine lv_iconst (v := 1) hx hb dX7_isAtEnd_7 (by decide) ?_
    refine lv_goto (tgt := 12) hx hb dX7_isAtEnd_8 (by decide) ?_
    exact g_zret S.1 hr hlocks (by decide) hG hL (congrArg (fun z => some (Value.int z)) (by simp only [kAe, eq_true c4, if_true, if_false])) (congr (congrArg (kJ ce0 ad K.2.2.1 cI cB cO cR) (by rfl)) (by rfl)) dX7_isAtEnd_12

set_option maxHeartbeats 4000000 in
set_option maxRecDepth 100000 in
theorem c_X7_isAtNumber {l : Launch} {D : va_G} {cI cZ cB cO cR cJ : ClassId} {Hb : Heap} {K : kTx} {lv : Nat → Prop} {ad : Nat → Nat} {ce0 : Nat → va_E} (s : Nat → Int32) (r : Nat → Nat → Int32) (hlv : kL lv s)   : kMet l D cI cZ cB cO cR cJ Hb K lv ad ce0 yX7_isAtNumber wsX7_isAtNumber 0 0 [.ref (ad 101)] s r (some (.int (kAn s))) s r := by
  refine Met.ofW (cc := cX7_isAtNumber) (maxL := 1) (ret := (some .boolean)) (by decide) rfl ?_
  intro p0 e0 s0 m0 args below meth c0 s₁ B hml hv
  obtain ⟨rfl, hG, hK, hE⟩ := hv
  have hx := B.exec
  have hb := B.bytes
  have hr := B.returns
  have hts := atoms_spec (ws := wsX7_isAtNumber) B.pre
  have hown : s0.vm.findClass RX7 = some m0.cls := findClass_of_methodNamed B.named
  have hlocks := B.notSynchronized
  have S : kX p0 m0 c0 cX7_isAtNumber 1 s0 _ wsX7_isAtNumber RX7 D (tyL cI cZ cB cO cR cJ) Hb K := ⟨⟨hx, hb, hml, hown, hts⟩, hK, hE⟩
  have hL : gL Hb [] := gL.nil
  have hH := hG.2.2.2.2
  have hl := lv_entry ([.ref (ad 101)]) (n := 1) (Nat.le_of_ble_eq_true rfl)
  rw [lg_entry_eq]
  generalize (lg_sl ([.ref (ad 101)]) ++ List.replicate (1 - (lg_sl ([.ref (ad 101)])).length) Slot.unset).toArray = ls at hl ⊢
  have hl : lv_has ls 1 [(0, .ref (ad 101))] := hl
  refine lv_aload_n hx hb dX7_isAtNumber_0 rfl (lv_at hl 0 rfl) ?_
  refine k_gi (C := RX7) (T := TX7) (N := 5) (ci := 8) (v := s 103) S hG (fun w h => List.mem_cons_of_mem _ (List.mem_append_right _ h)) 101 (hlv.f (by decide) (by decide)) rfl rfl 4 (by decide) rfl (hts (.fieldLink RX7 25 "SwarmLine$Tape" "kind" "I") (by decide +kernel)) rfl (rfl) dX7_isAtNumber_1 ?_
  refine lv_iconst (v := 2) hx hb dX7_isAtNumber_4 (by decide) ?_
  refine lv_icmp_ne (tgt := 12) hx hb dX7_isAtNumber_5 (by decide) (fun c5 => ?_) (fun c5 => ?_)
  ·
    refine lv_iconst (v := 0) hx hb dX7_isAtNumber_12 (by decide) ?_
    exact g_zret S.1 hr hlocks (by decide) hG hL (congrArg (fun z => some (Value.int z)) (by simp only [kAn, eq_false c5, if_true, if_false])) (congr (congrArg (kJ ce0 ad K.2.2.1 cI cB cO cR) (by rfl)) (by rfl)) dX7_isAtNumber_13
  ·
    refine lv_iconst (v := 1) hx hb dX7_isAtNumber_8 (by decide) ?_
    refine lv_goto (tgt := 13) hx hb dX7_isAtNumber_9 (by decide) ?_
    exact g_zret S.1 hr hlocks (by decide) hG hL (congrArg (fun z => some (Value.int z)) (by simp only [kAn, eq_true c5, if_true, if_false])) (congr (congrArg (kJ ce0 ad K.2.2.1 cI cB cO cR) (by rfl)) (by rfl)) dX7_isAtNumber_13

set_option maxHeartbeats 4000000 in
set_option maxRecDepth 100000 in
theorem c_X9_today {l : Launch} {D : va_G} {cI cZ cB cO cR cJ : ClassId} {Hb : Heap} {K : kTx} {lv : Nat → Prop} {ad : Nat → Nat} {ce0 : Nat → va_E} (s : Nat → Int32) (r : Nat → Nat → Int32) (hlv : kL lv s)   : kMet l D cI cZ cB cO cR cJ Hb K lv ad ce0 yX9_today wsX9_today 0 0 [.ref (ad 100)] s r (some (.int (s 1 / 24))) s r := by
  refine Met.ofW (cc := cX9_today) (maxL := 1) (ret := (some .int)) (by decide) rfl ?_
  intro p0 e0 s0 m0 args below meth c0 s₁ B hml hv
  obtain ⟨rfl, hG, hK, hE⟩ := hv
  have hx := B.exec
  have hb := B.bytes
  have hr := B.returns
  have hts := atoms_spec (ws := wsX9_today) B.pre
  have hown : s0.vm.findClass RX9 = some m0.cls := findClass_of_methodNamed B.named
  have hlocks := B.notSynchronized
  have S : kX p0 m0 c0 cX9_today 1 s0 _ wsX9_today RX9 D (tyL cI cZ cB cO cR cJ) Hb K := ⟨⟨hx, hb, hml, hown, hts⟩, hK, hE⟩
  have hL : gL Hb [] := gL.nil
  have hH := hG.2.2.2.2
  have hl := lv_entry ([.ref (ad 100)]) (n := 1) (Nat.le_of_ble_eq_true rfl)
  rw [lg_entry_eq]
  generalize (lg_sl ([.ref (ad 100)]) ++ List.replicate (1 - (lg_sl ([.ref (ad 100)])).length) Slot.unset).toArray = ls at hl ⊢
  have hl : lv_has ls 1 [(0, .ref (ad 100))] := hl
  refine lv_aload_n hx hb dX9_today_0 rfl (lv_at hl 0 rfl) ?_
  refine k_gi (C := RX9) (T := TX9) (N := 14) (ci := 10) (v := s 1) S hG (fun w h => List.mem_cons_of_mem _ (List.mem_append_right _ h)) 100 (hlv.f (by decide) (by decide)) rfl rfl 12 (by decide) rfl (hts (.fieldLink RX9 71 "SwarmLine" "now" "I") (by decide +kernel)) rfl (rfl) dX9_today_1 ?_
  refine lv_bipush (v := 24) hx hb dX9_today_4 (by decide) ?_
  refine lv_idiv hx hb dX9_today_6 (by decide) ?_
  exact g_iret S.1 hr hlocks hG hL (congrArg (fun z => some (Value.int z)) (by rfl)) (congr (congrArg (kJ ce0 ad K.2.2.1 cI cB cO cR) (by rfl)) (by rfl)) dX9_today_7

set_option maxHeartbeats 4000000 in
set_option maxRecDepth 100000 in
theorem c_X9_fault {l : Launch} {D : va_G} {cI cZ cB cO cR cJ : ClassId} {Hb : Heap} {K : kTx} {lv : Nat → Prop} {ad : Nat → Nat} {ce0 : Nat → va_E} (s : Nat → Int32) (r : Nat → Nat → Int32) (hlv : kL lv s)   : kMet l D cI cZ cB cO cR cJ Hb K lv ad ce0 yX9_fault wsX9_fault 0 0 [.ref (ad 100)] s r (some (.int (s 64))) s r := by
  refine Met.ofW (cc := cX9_fault) (maxL := 1) (ret := (some .int)) (by decide) rfl ?_
  intro p0 e0 s0 m0 args below meth c0 s₁ B hml hv
  obtain ⟨rfl, hG, hK, hE⟩ := hv
  have hx := B.exec
  have hb := B.bytes
  have hr := B.returns
  have hts := atoms_spec (ws := wsX9_fault) B.pre
  have hown : s0.vm.findClass RX9 = some m0.cls := findClass_of_methodNamed B.named
  have hlocks := B.notSynchronized
  have S : kX p0 m0 c0 cX9_fault 1 s0 _ wsX9_fault RX9 D (tyL cI cZ cB cO cR cJ) Hb K := ⟨⟨hx, hb, hml, hown, hts⟩, hK, hE⟩
  have hL : gL Hb [] := gL.nil
  have hH := hG.2.2.2.2
  have hl := lv_entry ([.ref (ad 100)]) (n := 1) (Nat.le_of_ble_eq_true rfl)
  rw [lg_entry_eq]
  generalize (lg_sl ([.ref (ad 100)]) ++ List.replicate (1 - (lg_sl ([.ref (ad 100)])).length) Slot.unset).toArray = ls at hl ⊢
  have hl : lv_has ls 1 [(0, .ref (ad 100))] := hl
  refine lv_aload_n hx hb dX9_fault_0 rfl (lv_at hl 0 rfl) ?_
  refine k_gi (C := RX9) (T := TX9) (N := 14) (ci := 10) (v := s 64) S hG (fun w h => List.mem_cons_of_mem _ (List.mem_append_right _ h)) 100 (hlv.f (by decide) (by decide)) rfl rfl 13 (by decide) rfl (hts (.fieldLink RX9 74 "SwarmLine" "wrongByte" "I") (by decide +kernel)) rfl (rfl) dX9_fault_1 ?_
  exact g_iret S.1 hr hlocks hG hL (congrArg (fun z => some (Value.int z)) (by rfl)) (congr (congrArg (kJ ce0 ad K.2.2.1 cI cB cO cR) (by rfl)) (by rfl)) dX9_fault_4

set_option maxHeartbeats 4000000 in
set_option maxRecDepth 100000 in
theorem c_X0_clear {l : Launch} {D : va_G} {cI cZ cB cO cR cJ : ClassId} {Hb : Heap} {K : kTx} {lv : Nat → Prop} {ad : Nat → Nat} {ce0 : Nat → va_E} (s : Nat → Int32) (r : Nat → Nat → Int32) (hlv : kL lv s)   : kMet l D cI cZ cB cO cR cJ Hb K lv ad ce0 yX0_clear wsX0_clear 0 0 [.ref (ad 104)] s r none (upd s 57 0) r := by
  refine Met.ofW (cc := cX0_clear) (maxL := 1) (ret := none) (by decide) rfl ?_
  intro p0 e0 s0 m0 args below meth c0 s₁ B hml hv
  obtain ⟨rfl, hG, hK, hE⟩ := hv
  have hx := B.exec
  have hb := B.bytes
  have hr := B.returns
  have hts := atoms_spec (ws := wsX0_clear) B.pre
  have hown : s0.vm.findClass RX0 = some m0.cls := findClass_of_methodNamed B.named
  have hlocks := B.notSynchronized
  have S : kX p0 m0 c0 cX0_clear 1 s0 _ wsX0_clear RX0 D (tyL cI cZ cB cO cR cJ) Hb K := ⟨⟨hx, hb, hml, hown, hts⟩, hK, hE⟩
  have hL : gL Hb [] := gL.nil
  have hH := hG.2.2.2.2
  have hl := lv_entry ([.ref (ad 104)]) (n := 1) (Nat.le_of_ble_eq_true rfl)
  rw [lg_entry_eq]
  generalize (lg_sl ([.ref (ad 104)]) ++ List.replicate (1 - (lg_sl ([.ref (ad 104)])).length) Slot.unset).toArray = ls at hl ⊢
  have hl : lv_has ls 1 [(0, .ref (ad 104))] := hl
  refine lv_aload_n hx hb dX0_clear_0 rfl (lv_at hl 0 rfl) ?_
  refine lv_iconst (v := 0) hx hb dX0_clear_1 (by decide) ?_
  refine k_pi (C := RX0) (T := TX0) (N := 3) (ci := 1) (ty := .int) S hG hL (fun w h => List.mem_cons_of_mem _ (List.mem_append_right _ h)) tyX0 tyX0_ok nmX0 104 (hlv.f (by decide) (by decide)) rfl rfl 2 (by decide) rfl (hts (.fieldLink RX0 18 "SwarmLine$Asked" "many" "I") (by decide +kernel)) rfl (by decide +kernel) rfl rfl (Nat.le_of_ble_eq_true rfl) (kw_104_many _) dX0_clear_2 (fun H locs hG hL => ?_)
  exact g_vret S.1 hr hlocks hG hL rfl (congr (congrArg (kJ ce0 ad K.2.2.1 cI cB cO cR) (by rfl)) (by rfl)) dX0_clear_5

set_option maxHeartbeats 4000000 in
set_option maxRecDepth 100000 in
theorem c_X4_turnBack {l : Launch} {D : va_G} {cI cZ cB cO cR cJ : ClassId} {Hb : Heap} {K : kTx} {lv : Nat → Prop} {ad : Nat → Nat} {ce0 : Nat → va_E} (s : Nat → Int32) (r : Nat → Nat → Int32) (hlv : kL lv s) (i : Nat) (hi : i < (s 26).toNatClampNeg) (hi9 : i < 1000)  : kMet l D cI cZ cB cO cR cJ Hb K lv ad ce0 yX4_turnBack wsX4_turnBack 0 0 [.ref (ad (3000 + i))] s r none s (up2 (up2 r 34 i 2) 35 i (r 36 i)) := by
  refine Met.ofW (cc := cX4_turnBack) (maxL := 1) (ret := none) (by decide) rfl ?_
  intro p0 e0 s0 m0 args below meth c0 s₁ B hml hv
  obtain ⟨rfl, hG, hK, hE⟩ := hv
  have hx := B.exec
  have hb := B.bytes
  have hr := B.returns
  have hts := atoms_spec (ws := wsX4_turnBack) B.pre
  have hown : s0.vm.findClass RX4 = some m0.cls := findClass_of_methodNamed B.named
  have hlocks := B.notSynchronized
  have S : kX p0 m0 c0 cX4_turnBack 1 s0 _ wsX4_turnBack RX4 D (tyL cI cZ cB cO cR cJ) Hb K := ⟨⟨hx, hb, hml, hown, hts⟩, hK, hE⟩
  have hL : gL Hb [] := gL.nil
  have hH := hG.2.2.2.2
  have hl := lv_entry ([.ref (ad (3000 + i))]) (n := 1) (Nat.le_of_ble_eq_true rfl)
  rw [lg_entry_eq]
  generalize (lg_sl ([.ref (ad (3000 + i))]) ++ List.replicate (1 - (lg_sl ([.ref (ad (3000 + i))])).length) Slot.unset).toArray = ls at hl ⊢
  have hl : lv_has ls 1 [(0, .ref (ad (3000 + i)))] := hl
  refine lv_aload_n hx hb dX4_turnBack_0 rfl (lv_at hl 0 rfl) ?_
  refine lv_iconst (v := 2) hx hb dX4_turnBack_1 (by decide) ?_
  refine k_pi (C := RX4) (T := TX4) (N := 12) (ci := 5) (ty := .int) S hG hL (fun w h => List.mem_cons_of_mem _ (List.mem_append_right _ h)) tyX4 tyX4_ok nmX4 (3000 + i) (hlv.kp hi) (kJ_kp hi9) rfl 7 (by decide) rfl (hts (.fieldLink RX4 9 "SwarmLine$Keeper" "state" "I") (by decide +kernel)) rfl (by decide +kernel) rfl rfl (Nat.le_of_ble_eq_true rfl) (kw_kp_state hi9 _) dX4_turnBack_2 (fun H locs hG hL => ?_)
  refine lv_aload_n hx hb dX4_turnBack_5 rfl (lv_at hl 0 rfl) ?_
  refine lv_aload_n hx hb dX4_turnBack_6 rfl (lv_at hl 0 rfl) ?_
  refine k_gi (C := RX4) (T := TX4) (N := 12) (ci := 5) (v := r 36 i) S hG (fun w h => List.mem_cons_of_mem _ (List.mem_append_right _ h)) (3000 + i) (hlv.kp hi) (kJ_kp hi9) rfl 8 (by decide) rfl (hts (.fieldLink RX4 15 "SwarmLine$Keeper" "hoursOneWay" "I") (by decide +kernel)) rfl ((up2_n _ _ _ _ (by decide)).trans (rfl)) dX4_turnBack_7 ?_
  refine k_pi (C := RX4) (T := TX4) (N := 12) (ci := 5) (ty := .int) S hG hL (fun w h => List.mem_cons_of_mem _ (List.mem_append_right _ h)) tyX4 tyX4_ok nmX4 (3000 + i) (hlv.kp hi) (kJ_kp hi9) rfl 9 (by decide) rfl (hts (.fieldLink RX4 18 "SwarmLine$Keeper" "hoursToGo" "I") (by decide +kernel)) rfl (by decide +kernel) rfl rfl (Nat.le_of_ble_eq_true rfl) (kw_kp_hoursToGo hi9 _) dX4_turnBack_10 (fun H locs hG hL => ?_)
  exact g_vret S.1 hr hlocks hG hL rfl (congr (congrArg (kJ ce0 ad K.2.2.1 cI cB cO cR) (by rfl)) (by rfl)) dX4_turnBack_13

set_option maxHeartbeats 4000000 in
set_option maxRecDepth 100000 in
theorem c_X4_comeHome {l : Launch} {D : va_G} {cI cZ cB cO cR cJ : ClassId} {Hb : Heap} {K : kTx} {lv : Nat → Prop} {ad : Nat → Nat} {ce0 : Nat → va_E} (s : Nat → Int32) (r : Nat → Nat → Int32) (hlv : kL lv s) (i : Nat) (hi : i < (s 26).toNatClampNeg) (hi9 : i < 1000)  : kMet l D cI cZ cB cO cR cJ Hb K lv ad ce0 yX4_comeHome wsX4_comeHome 0 0 [.ref (ad (3000 + i))] s r none s (up2 (up2 r 34 i 0) 37 i (-1)) := by
  refine Met.ofW (cc := cX4_comeHome) (maxL := 1) (ret := none) (by decide) rfl ?_
  intro p0 e0 s0 m0 args below meth c0 s₁ B hml hv
  obtain ⟨rfl, hG, hK, hE⟩ := hv
  have hx := B.exec
  have hb := B.bytes
  have hr := B.returns
  have hts := atoms_spec (ws := wsX4_comeHome) B.pre
  have hown : s0.vm.findClass RX4 = some m0.cls := findClass_of_methodNamed B.named
  have hlocks := B.notSynchronized
  have S : kX p0 m0 c0 cX4_comeHome 1 s0 _ wsX4_comeHome RX4 D (tyL cI cZ cB cO cR cJ) Hb K := ⟨⟨hx, hb, hml, hown, hts⟩, hK, hE⟩
  have hL : gL Hb [] := gL.nil
  have hH := hG.2.2.2.2
  have hl := lv_entry ([.ref (ad (3000 + i))]) (n := 1) (Nat.le_of_ble_eq_true rfl)
  rw [lg_entry_eq]
  generalize (lg_sl ([.ref (ad (3000 + i))]) ++ List.replicate (1 - (lg_sl ([.ref (ad (3000 + i))])).length) Slot.unset).toArray = ls at hl ⊢
  have hl : lv_has ls 1 [(0, .ref (ad (3000 + i)))] := hl
  refine lv_aload_n hx hb dX4_comeHome_0 rfl (lv_at hl 0 rfl) ?_
  refine lv_iconst (v := 0) hx hb dX4_comeHome_1 (by decide) ?_
  refine k_pi (C := RX4) (T := TX4) (N := 12) (ci := 5) (ty := .int) S hG hL (fun w h => List.mem_cons_of_mem _ (List.mem_append_right _ h)) tyX4 tyX4_ok nmX4 (3000 + i) (hlv.kp hi) (kJ_kp hi9) rfl 7 (by decide) rfl (hts (.fieldLink RX4 9 "SwarmLine$Keeper" "state" "I") (by decide +kernel)) rfl (by decide +kernel) rfl rfl (Nat.le_of_ble_eq_true rfl) (kw_kp_state hi9 _) dX4_comeHome_2 (fun H locs hG hL => ?_)
  refine lv_aload_n hx hb dX4_comeHome_5 rfl (lv_at hl 0 rfl) ?_
  refine lv_iconst (v := (-1)) hx hb dX4_comeHome_6 (by decide) ?_
  refine k_pi (C := RX4) (T := TX4) (N := 12) (ci := 5) (ty := .int) S hG hL (fun w h => List.mem_cons_of_mem _ (List.mem_append_right _ h)) tyX4 tyX4_ok nmX4 (3000 + i) (hlv.kp hi) (kJ_kp hi9) rfl 10 (by decide) rfl (hts (.fieldLink RX4 21 "SwarmLine$Keeper" "aCase" "I") (by decide +kernel)) rfl (by decide +kernel) rfl rfl (Nat.le_of_ble_eq_true rfl) (kw_kp_aCase hi9 _) dX4_comeHome_7 (fun H locs hG hL => ?_)
  exact g_vret S.1 hr hlocks hG hL rfl (congr (congrArg (kJ ce0 ad K.2.2.1 cI cB cO cR) (by rfl)) (by rfl)) dX4_comeHome_10

set_option maxHeartbeats 4000000 in
set_option maxRecDepth 100000 in
theorem c_X3_isRipe {l : Launch} {D : va_G} {cI cZ cB cO cR cJ : ClassId} {Hb : Heap} {K : kTx} {lv : Nat → Prop} {ad : Nat → Nat} {ce0 : Nat → va_E} (s : Nat → Int32) (r : Nat → Nat → Int32) (hlv : kL lv s) (i : Nat) (hi : i < (s 6).toNatClampNeg) (hi9 : i < 1000)  : kMet l D cI cZ cB cO cR cJ Hb K lv ad ce0 yX3_isRipe wsX3_isRipe 0 0 [.ref (ad (1000 + i))] s r (some (.int ((if r 9 i ≤ r 10 i then 0 else if r 12 i < 3 then 0 else 1)))) s r := by
  refine Met.ofW (cc := cX3_isRipe) (maxL := 1) (ret := (some .boolean)) (by decide) rfl ?_
  intro p0 e0 s0 m0 args below meth c0 s₁ B hml hv
  obtain ⟨rfl, hG, hK, hE⟩ := hv
  have hx := B.exec
  have hb := B.bytes
  have hr := B.returns
  have hts := atoms_spec (ws := wsX3_isRipe) B.pre
  have hown : s0.vm.findClass RX3 = some m0.cls := findClass_of_methodNamed B.named
  have hlocks := B.notSynchronized
  have S : kX p0 m0 c0 cX3_isRipe 1 s0 _ wsX3_isRipe RX3 D (tyL cI cZ cB cO cR cJ) Hb K := ⟨⟨hx, hb, hml, hown, hts⟩, hK, hE⟩
  have hL : gL Hb [] := gL.nil
  have hH := hG.2.2.2.2
  have hl := lv_entry ([.ref (ad (1000 + i))]) (n := 1) (Nat.le_of_ble_eq_true rfl)
  rw [lg_entry_eq]
  generalize (lg_sl ([.ref (ad (1000 + i))]) ++ List.replicate (1 - (lg_sl ([.ref (ad (1000 + i))])).length) Slot.unset).toArray = ls at hl ⊢
  have hl : lv_has ls 1 [(0, .ref (ad (1000 + i)))] := hl
  refine lv_aload_n hx hb dX3_isRipe_0 rfl (lv_at hl 0 rfl) ?_
  refine k_gi (C := RX3) (T := TX3) (N := 7) (ci := 4) (v := r 9 i) S hG (fun w h => List.mem_cons_of_mem _ (List.mem_append_right _ h)) (1000 + i) (hlv.hv hi) (kJ_hv hi9) rfl 4 (by decide) rfl (hts (.fieldLink RX3 24 "SwarmLine$Hive" "bees" "I") (by decide +kernel)) rfl (rfl) dX3_isRipe_1 ?_
  refine lv_aload_n hx hb dX3_isRipe_4 rfl (lv_at hl 0 rfl) ?_
  refine k_gi (C := RX3) (T := TX3) (N := 7) (ci := 4) (v := r 10 i) S hG (fun w h => List.mem_cons_of_mem _ (List.mem_append_right _ h)) (1000 + i) (hlv.hv hi) (kJ_hv hi9) rfl 2 (by decide) rfl (hts (.fieldLink RX3 27 "SwarmLine$Hive" "room" "I") (by decide +kernel)) rfl (rfl) dX3_isRipe_5 ?_
  refine lv_icmp_le (tgt := 23) hx hb dX3_isRipe_8 (by decide) (fun c8 => ?_) (fun c8 => ?_)
  ·
    refine lv_iconst (v := 0) hx hb dX3_isRipe_23 (by decide) ?_
    exact g_zret S.1 hr hlocks (by decide) hG hL (congrArg (fun z => some (Value.int z)) (by simp only [eq_true c8, if_true, if_false])) (congr (congrArg (kJ ce0 ad K.2.2.1 cI cB cO cR) (by rfl)) (by rfl)) dX3_isRipe_24
  ·
    refine lv_aload_n hx hb dX3_isRipe_11 rfl (lv_at hl 0 rfl) ?_
    refine k_gi (C := RX3) (T := TX3) (N := 7) (ci := 4) (v := r 12 i) S hG (fun w h => List.mem_cons_of_mem _ (List.mem_append_right _ h)) (1000 + i) (hlv.hv hi) (kJ_hv hi9) rfl 5 (by decide) rfl (hts (.fieldLink RX3 9 "SwarmLine$Hive" "warm" "I") (by decide +kernel)) rfl (rfl) dX3_isRipe_12 ?_
    refine lv_iconst (v := 3) hx hb dX3_isRipe_15 (by decide) ?_
    refine lv_icmp_lt (tgt := 23) hx hb dX3_isRipe_16 (by decide) (fun c16 => ?_) (fun c16 => ?_)
    ·
      refine lv_iconst (v := 0) hx hb dX3_isRipe_23 (by decide) ?_
      exact g_zret S.1 hr hlocks (by decide) hG hL (congrArg (fun z => some (Value.int z)) (by simp only [eq_false c8, eq_true c16, if_true, if_false])) (congr (congrArg (kJ ce0 ad K.2.2.1 cI cB cO cR) (by rfl)) (by rfl)) dX3_isRipe_24
    ·
      refine lv_iconst (v := 1) hx hb dX3_isRipe_19 (by decide) ?_
      refine lv_goto (tgt := 24) hx hb dX3_isRipe_20 (by decide) ?_
      exact g_zret S.1 hr hlocks (by decide) hG hL (congrArg (fun z => some (Value.int z)) (by simp only [eq_false c8, eq_false c16, if_true, if_false])) (congr (congrArg (kJ ce0 ad K.2.2.1 cI cB cO cR) (by rfl)) (by rfl)) dX3_isRipe_24

set_option maxHeartbeats 4000000 in
set_option maxRecDepth 100000 in
theorem c_X3_loseHalf {l : Launch} {D : va_G} {cI cZ cB cO cR cJ : ClassId} {Hb : Heap} {K : kTx} {lv : Nat → Prop} {ad : Nat → Nat} {ce0 : Nat → va_E} (s : Nat → Int32) (r : Nat → Nat → Int32) (hlv : kL lv s) (i : Nat) (hi : i < (s 6).toNatClampNeg) (hi9 : i < 1000) (n : Int32)  : kMet l D cI cZ cB cO cR cJ Hb K lv ad ce0 yX3_loseHalf wsX3_loseHalf 0 0 [.ref (ad (1000 + i)), .int n] s r none s (up2 (up2 (up2 r 9 i (r 9 i - r 9 i / 2)) 12 i 0) 13 i n) := by
  refine Met.ofW (cc := cX3_loseHalf) (maxL := 2) (ret := none) (by decide) rfl ?_
  intro p0 e0 s0 m0 args below meth c0 s₁ B hml hv
  obtain ⟨rfl, hG, hK, hE⟩ := hv
  have hx := B.exec
  have hb := B.bytes
  have hr := B.returns
  have hts := atoms_spec (ws := wsX3_loseHalf) B.pre
  have hown : s0.vm.findClass RX3 = some m0.cls := findClass_of_methodNamed B.named
  have hlocks := B.notSynchronized
  have S : kX p0 m0 c0 cX3_loseHalf 2 s0 _ wsX3_loseHalf RX3 D (tyL cI cZ cB cO cR cJ) Hb K := ⟨⟨hx, hb, hml, hown, hts⟩, hK, hE⟩
  have hL : gL Hb [] := gL.nil
  have hH := hG.2.2.2.2
  have hl := lv_entry ([.ref (ad (1000 + i)), .int n]) (n := 2) (Nat.le_of_ble_eq_true rfl)
  rw [lg_entry_eq]
  generalize (lg_sl ([.ref (ad (1000 + i)), .int n]) ++ List.replicate (2 - (lg_sl ([.ref (ad (1000 + i)), .int n])).length) Slot.unset).toArray = ls at hl ⊢
  have hl : lv_has ls 2 [(0, .ref (ad (1000 + i))), (1, .int n)] := hl
  refine lv_aload_n hx hb dX3_loseHalf_0 rfl (lv_at hl 0 rfl) ?_
  refine lv_dup hx hb dX3_loseHalf_1 rfl ?_
  refine k_gi (C := RX3) (T := TX3) (N := 7) (ci := 4) (v := r 9 i) S hG (fun w h => List.mem_cons_of_mem _ (List.mem_append_right _ h)) (1000 + i) (hlv.hv hi) (kJ_hv hi9) rfl 4 (by decide) rfl (hts (.fieldLink RX3 24 "SwarmLine$Hive" "bees" "I") (by decide +kernel)) rfl (rfl) dX3_loseHalf_2 ?_
  refine lv_aload_n hx hb dX3_loseHalf_5 rfl (lv_at hl 0 rfl) ?_
  refine k_gi (C := RX3) (T := TX3) (N := 7) (ci := 4) (v := r 9 i) S hG (fun w h => List.mem_cons_of_mem _ (List.mem_append_right _ h)) (1000 + i) (hlv.hv hi) (kJ_hv hi9) rfl 4 (by decide) rfl (hts (.fieldLink RX3 24 "SwarmLine$Hive" "bees" "I") (by decide +kernel)) rfl (rfl) dX3_loseHalf_6 ?_
  refine lv_iconst (v := 2) hx hb dX3_loseHalf_9 (by decide) ?_
  refine lv_idiv hx hb dX3_loseHalf_10 (by decide) ?_
  refine lv_isub hx hb dX3_loseHalf_11 ?_
  refine k_pi (C := RX3) (T := TX3) (N := 7) (ci := 4) (ty := .int) S hG hL (fun w h => List.mem_cons_of_mem _ (List.mem_append_right _ h)) tyX3 tyX3_ok nmX3 (1000 + i) (hlv.hv hi) (kJ_hv hi9) rfl 4 (by decide) rfl (hts (.fieldLink RX3 24 "SwarmLine$Hive" "bees" "I") (by decide +kernel)) rfl (by decide +kernel) rfl rfl (Nat.le_of_ble_eq_true rfl) (kw_hv_bees hi9 _) dX3_loseHalf_12 (fun H locs hG hL => ?_)
  refine lv_aload_n hx hb dX3_loseHalf_15 rfl (lv_at hl 0 rfl) ?_
  refine lv_iconst (v := 0) hx hb dX3_loseHalf_16 (by decide) ?_
  refine k_pi (C := RX3) (T := TX3) (N := 7) (ci := 4) (ty := .int) S hG hL (fun w h => List.mem_cons_of_mem _ (List.mem_append_right _ h)) tyX3 tyX3_ok nmX3 (1000 + i) (hlv.hv hi) (kJ_hv hi9) rfl 5 (by decide) rfl (hts (.fieldLink RX3 9 "SwarmLine$Hive" "warm" "I") (by decide +kernel)) rfl (by decide +kernel) rfl rfl (Nat.le_of_ble_eq_true rfl) (kw_hv_warm hi9 _) dX3_loseHalf_17 (fun H locs hG hL => ?_)
  refine lv_aload_n hx hb dX3_loseHalf_20 rfl (lv_at hl 0 rfl) ?_
  refine lv_iload_n hx hb dX3_loseHalf_21 rfl (lv_at hl 1 rfl) ?_
  refine k_pi (C := RX3) (T := TX3) (N := 7) (ci := 4) (ty := .int) S hG hL (fun w h => List.mem_cons_of_mem _ (List.mem_append_right _ h)) tyX3 tyX3_ok nmX3 (1000 + i) (hlv.hv hi) (kJ_hv hi9) rfl 6 (by decide) rfl (hts (.fieldLink RX3 15 "SwarmLine$Hive" "swarmedLast" "I") (by decide +kernel)) rfl (by decide +kernel) rfl rfl (Nat.le_of_ble_eq_true rfl) (kw_hv_swarmedLast hi9 _) dX3_loseHalf_22 (fun H locs hG hL => ?_)
  exact g_vret S.1 hr hlocks hG hL rfl (congr (congrArg (kJ ce0 ad K.2.2.1 cI cB cO cR) (by rfl)) (by rfl)) dX3_loseHalf_25

set_option maxHeartbeats 4000000 in
set_option maxRecDepth 100000 in
theorem c_X6_isHadBy {l : Launch} {D : va_G} {cI cZ cB cO cR cJ : ClassId} {Hb : Heap} {K : kTx} {lv : Nat → Prop} {ad : Nat → Nat} {ce0 : Nat → va_E} (s : Nat → Int32) (r : Nat → Nat → Int32) (hlv : kL lv s) (i : Nat) (hi : i < (s 14).toNatClampNeg) (hi9 : i < 1000) (k : Int32) (c : Int32) (n : Int32)  : kMet l D cI cZ cB cO cR cJ Hb K lv ad ce0 yX6_isHadBy wsX6_isHadBy 0 0 [.ref (ad (2000 + i)), .int k, .int c, .int n] s r none s (up2 (up2 (up2 (up2 r 15 i 1) 23 i k) 25 i c) 24 i n) := by
  refine Met.ofW (cc := cX6_isHadBy) (maxL := 4) (ret := none) (by decide) rfl ?_
  intro p0 e0 s0 m0 args below meth c0 s₁ B hml hv
  obtain ⟨rfl, hG, hK, hE⟩ := hv
  have hx := B.exec
  have hb := B.bytes
  have hr := B.returns
  have hts := atoms_spec (ws := wsX6_isHadBy) B.pre
  have hown : s0.vm.findClass RX6 = some m0.cls := findClass_of_methodNamed B.named
  have hlocks := B.notSynchronized
  have S : kX p0 m0 c0 cX6_isHadBy 4 s0 _ wsX6_isHadBy RX6 D (tyL cI cZ cB cO cR cJ) Hb K := ⟨⟨hx, hb, hml, hown, hts⟩, hK, hE⟩
  have hL : gL Hb [] := gL.nil
  have hH := hG.2.2.2.2
  have hl := lv_entry ([.ref (ad (2000 + i)), .int k, .int c, .int n]) (n := 4) (Nat.le_of_ble_eq_true rfl)
  rw [lg_entry_eq]
  generalize (lg_sl ([.ref (ad (2000 + i)), .int k, .int c, .int n]) ++ List.replicate (4 - (lg_sl ([.ref (ad (2000 + i)), .int k, .int c, .int n])).length) Slot.unset).toArray = ls at hl ⊢
  have hl : lv_has ls 4 [(0, .ref (ad (2000 + i))), (1, .int k), (2, .int c), (3, .int n)] := hl
  refine lv_aload_n hx hb dX6_isHadBy_0 rfl (lv_at hl 0 rfl) ?_
  refine lv_iconst (v := 1) hx hb dX6_isHadBy_1 (by decide) ?_
  refine k_pi (C := RX6) (T := TX6) (N := 11) (ci := 7) (ty := .int) S hG hL (fun w h => List.mem_cons_of_mem _ (List.mem_append_right _ h)) tyX6 tyX6_ok nmX6 (2000 + i) (hlv.sw hi) (kJ_sw hi9) rfl 7 (by decide) rfl (hts (.fieldLink RX6 15 "SwarmLine$Swarm" "state" "I") (by decide +kernel)) rfl (by decide +kernel) rfl rfl (Nat.le_of_ble_eq_true rfl) (kw_sw_state hi9 _) dX6_isHadBy_2 (fun H locs hG hL => ?_)
  refine lv_aload_n hx hb dX6_isHadBy_5 rfl (lv_at hl 0 rfl) ?_
  refine lv_iload_n hx hb dX6_isHadBy_6 rfl (lv_at hl 1 rfl) ?_
  refine k_pi (C := RX6) (T := TX6) (N := 11) (ci := 7) (ty := .int) S hG hL (fun w h => List.mem_cons_of_mem _ (List.mem_append_right _ h)) tyX6 tyX6_ok nmX6 (2000 + i) (hlv.sw hi) (kJ_sw hi9) rfl 8 (by decide) rfl (hts (.fieldLink RX6 18 "SwarmLine$Swarm" "keeper" "I") (by decide +kernel)) rfl (by decide +kernel) rfl rfl (Nat.le_of_ble_eq_true rfl) (kw_sw_keeper hi9 _) dX6_isHadBy_7 (fun H locs hG hL => ?_)
  refine lv_aload_n hx hb dX6_isHadBy_10 rfl (lv_at hl 0 rfl) ?_
  refine lv_iload_n hx hb dX6_isHadBy_11 rfl (lv_at hl 2 rfl) ?_
  refine k_pi (C := RX6) (T := TX6) (N := 11) (ci := 7) (ty := .int) S hG hL (fun w h => List.mem_cons_of_mem _ (List.mem_append_right _ h)) tyX6 tyX6_ok nmX6 (2000 + i) (hlv.sw hi) (kJ_sw hi9) rfl 9 (by decide) rfl (hts (.fieldLink RX6 21 "SwarmLine$Swarm" "aCase" "I") (by decide +kernel)) rfl (by decide +kernel) rfl rfl (Nat.le_of_ble_eq_true rfl) (kw_sw_aCase hi9 _) dX6_isHadBy_12 (fun H locs hG hL => ?_)
  refine lv_aload_n hx hb dX6_isHadBy_15 rfl (lv_at hl 0 rfl) ?_
  refine lv_iload_n hx hb dX6_isHadBy_16 rfl (lv_at hl 3 rfl) ?_
  refine k_pi (C := RX6) (T := TX6) (N := 11) (ci := 7) (ty := .int) S hG hL (fun w h => List.mem_cons_of_mem _ (List.mem_append_right _ h)) tyX6 tyX6_ok nmX6 (2000 + i) (hlv.sw hi) (kJ_sw hi9) rfl 10 (by decide) rfl (hts (.fieldLink RX6 24 "SwarmLine$Swarm" "ended" "I") (by decide +kernel)) rfl (by decide +kernel) rfl rfl (Nat.le_of_ble_eq_true rfl) (kw_sw_ended hi9 _) dX6_isHadBy_17 (fun H locs hG hL => ?_)
  exact g_vret S.1 hr hlocks hG hL rfl (congr (congrArg (kJ ce0 ad K.2.2.1 cI cB cO cR) (by rfl)) (by rfl)) dX6_isHadBy_20

set_option maxHeartbeats 4000000 in
set_option maxRecDepth 100000 in
theorem c_X2_forget {l : Launch} {D : va_G} {cI cZ cB cO cR cJ : ClassId} {Hb : Heap} {K : kTx} {lv : Nat → Prop} {ad : Nat → Nat} {ce0 : Nat → va_E} (s : Nat → Int32) (r : Nat → Nat → Int32) (hlv : kL lv s)   : kMet l D cI cZ cB cO cR cJ Hb K lv ad ce0 yX2_forget wsX2_forget 0 0 [.ref (ad 102)] s r none (upd (upd (upd (upd (upd (upd s 104 (-1)) 105 (-1)) 106 0) 107 (-1)) 108 0) 109 0) r := by
  refine Met.ofW (cc := cX2_forget) (maxL := 1) (ret := none) (by decide) rfl ?_
  intro p0 e0 s0 m0 args below meth c0 s₁ B hml hv
  obtain ⟨rfl, hG, hK, hE⟩ := hv
  have hx := B.exec
  have hb := B.bytes
  have hr := B.returns
  have hts := atoms_spec (ws := wsX2_forget) B.pre
  have hown : s0.vm.findClass RX2 = some m0.cls := findClass_of_methodNamed B.named
  have hlocks := B.notSynchronized
  have S : kX p0 m0 c0 cX2_forget 1 s0 _ wsX2_forget RX2 D (tyL cI cZ cB cO cR cJ) Hb K := ⟨⟨hx, hb, hml, hown, hts⟩, hK, hE⟩
  have hL : gL Hb [] := gL.nil
  have hH := hG.2.2.2.2
  have hl := lv_entry ([.ref (ad 102)]) (n := 1) (Nat.le_of_ble_eq_true rfl)
  rw [lg_entry_eq]
  generalize (lg_sl ([.ref (ad 102)]) ++ List.replicate (1 - (lg_sl ([.ref (ad 102)])).length) Slot.unset).toArray = ls at hl ⊢
  have hl : lv_has ls 1 [(0, .ref (ad 102))] := hl
  refine lv_aload_n hx hb dX2_forget_0 rfl (lv_at hl 0 rfl) ?_
  refine lv_iconst (v := (-1)) hx hb dX2_forget_1 (by decide) ?_
  refine k_pi (C := RX2) (T := TX2) (N := 6) (ci := 3) (ty := .int) S hG hL (fun w h => List.mem_cons_of_mem _ (List.mem_append_right _ h)) tyX2 tyX2_ok nmX2 102 (hlv.f (by decide) (by decide)) rfl rfl 0 (by decide) rfl (hts (.fieldLink RX2 34 "SwarmLine$Facts" "x" "I") (by decide +kernel)) rfl (by decide +kernel) rfl rfl (Nat.le_of_ble_eq_true rfl) (kw_102_x _) dX2_forget_2 (fun H locs hG hL => ?_)
  refine lv_aload_n hx hb dX2_forget_5 rfl (lv_at hl 0 rfl) ?_
  refine lv_iconst (v := (-1)) hx hb dX2_forget_6 (by decide) ?_
  refine k_pi (C := RX2) (T := TX2) (N := 6) (ci := 3) (ty := .int) S hG hL (fun w h => List.mem_cons_of_mem _ (List.mem_append_right _ h)) tyX2 tyX2_ok nmX2 102 (hlv.f (by decide) (by decide)) rfl rfl 1 (by decide) rfl (hts (.fieldLink RX2 38 "SwarmLine$Facts" "y" "I") (by decide +kernel)) rfl (by decide +kernel) rfl rfl (Nat.le_of_ble_eq_true rfl) (kw_102_y _) dX2_forget_7 (fun H locs hG hL => ?_)
  refine lv_aload_n hx hb dX2_forget_10 rfl (lv_at hl 0 rfl) ?_
  refine lv_iconst (v := 0) hx hb dX2_forget_11 (by decide) ?_
  refine k_pi (C := RX2) (T := TX2) (N := 6) (ci := 3) (ty := .int) S hG hL (fun w h => List.mem_cons_of_mem _ (List.mem_append_right _ h)) tyX2 tyX2_ok nmX2 102 (hlv.f (by decide) (by decide)) rfl rfl 2 (by decide) rfl (hts (.fieldLink RX2 41 "SwarmLine$Facts" "high" "I") (by decide +kernel)) rfl (by decide +kernel) rfl rfl (Nat.le_of_ble_eq_true rfl) (kw_102_high _) dX2_forget_12 (fun H locs hG hL => ?_)
  refine lv_aload_n hx hb dX2_forget_15 rfl (lv_at hl 0 rfl) ?_
  refine lv_iconst (v := (-1)) hx hb dX2_forget_16 (by decide) ?_
  refine k_pi (C := RX2) (T := TX2) (N := 6) (ci := 3) (ty := .int) S hG hL (fun w h => List.mem_cons_of_mem _ (List.mem_append_right _ h)) tyX2 tyX2_ok nmX2 102 (hlv.f (by decide) (by decide)) rfl rfl 3 (by decide) rfl (hts (.fieldLink RX2 44 "SwarmLine$Facts" "since" "I") (by decide +kernel)) rfl (by decide +kernel) rfl rfl (Nat.le_of_ble_eq_true rfl) (kw_102_since _) dX2_forget_17 (fun H locs hG hL => ?_)
  refine lv_aload_n hx hb dX2_forget_20 rfl (lv_at hl 0 rfl) ?_
  refine lv_iconst (v := 0) hx hb dX2_forget_21 (by decide) ?_
  refine k_pi (C := RX2) (T := TX2) (N := 6) (ci := 3) (ty := .int) S hG hL (fun w h => List.mem_cons_of_mem _ (List.mem_append_right _ h)) tyX2 tyX2_ok nmX2 102 (hlv.f (by decide) (by decide)) rfl rfl 4 (by decide) rfl (hts (.fieldLink RX2 47 "SwarmLine$Facts" "mark" "I") (by decide +kernel)) rfl (by decide +kernel) rfl rfl (Nat.le_of_ble_eq_true rfl) (kw_102_mark _) dX2_forget_22 (fun H locs hG hL => ?_)
  refine lv_aload_n hx hb dX2_forget_25 rfl (lv_at hl 0 rfl) ?_
  refine lv_iconst (v := 0) hx hb dX2_forget_26 (by decide) ?_
  refine k_pi (C := RX2) (T := TX2) (N := 6) (ci := 3) (ty := .boolean) S hG hL (fun w h => List.mem_cons_of_mem _ (List.mem_append_right _ h)) tyX2 tyX2_ok nmX2 102 (hlv.f (by decide) (by decide)) rfl rfl 5 (by decide) rfl (hts (.fieldLink RX2 50 "SwarmLine$Facts" "maybe" "Z") (by decide +kernel)) rfl (by decide +kernel) (by decide) (by decide) (Nat.le_of_ble_eq_true rfl) (kw_102_maybe _) dX2_forget_27 (fun H locs hG hL => ?_)
  exact g_vret S.1 hr hlocks hG hL rfl (congr (congrArg (kJ ce0 ad K.2.2.1 cI cB cO cR) (by rfl)) (by rfl)) dX2_forget_30
