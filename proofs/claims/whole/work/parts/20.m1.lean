/-! what the reference's small methods answer -/
def fIn (v lo hi : Int32) : Int32 := if v < lo then 0 else if hi < v then 0 else 1
def fAb (x u : Int32) : Int32 := if x ≤ u then u - x else x - u
def fSt (x y u v : Int32) : Int32 := if fAb x u ≤ fAb y v then fAb y v else fAb x u
def fHe (v : Int32) : Int32 := if 0 ≤ v then if v ≤ 19 then v else 19 else 0
def fTa (w : Int32) : Int32 := if w < 25 then if w < 18 then 1 else 2 else 3
def fLe (b : Int32) : Int32 := if b < 97 then 0 else if 122 < b then 0 else 1
def fDi (b : Int32) : Int32 := if b < 48 then 0 else if 57 < b then 0 else 1
def fIs (n h : Int32) : Int32 := if h < 0 then 0 else if n ≤ h then 0 else 1
set_option maxHeartbeats 4000000 in
set_option maxRecDepth 100000 in
theorem c_X10_isIn {l : Launch} (v : Int32) (lo : Int32) (hi : Int32) : pMet l yX10_isIn wsX10_isIn 0 0 [.int v, .int lo, .int hi] (some (.int (fIn v lo hi))) := by
  refine Met.ofW (cc := cX10_isIn) (maxL := 3) (ret := (some .boolean)) (by decide) rfl ?_
  intro p0 e0 s0 m0 args below meth c0 s₁ B hml hv
  obtain ⟨rfl, -⟩ := hv
  have hx := B.exec
  have hb := B.bytes
  have hr := B.returns
  have hts := atoms_spec (ws := wsX10_isIn) B.pre
  have hown : s0.vm.findClass RX10 = some m0.cls := findClass_of_methodNamed B.named
  have hlocks := B.notSynchronized
  have S : CallFix p0 m0 c0 cX10_isIn 3 s0 _ wsX10_isIn RX10 := ⟨hx, hb, hml, hown, hts⟩
  have hl := lv_entry ([.int v, .int lo, .int hi]) (n := 3) (Nat.le_of_ble_eq_true rfl)
  rw [lg_entry_eq]
  generalize (lg_sl ([.int v, .int lo, .int hi]) ++ List.replicate (3 - (lg_sl ([.int v, .int lo, .int hi])).length) Slot.unset).toArray = ls at hl ⊢
  have hl : lv_has ls 3 [(0, .int v), (1, .int lo), (2, .int hi)] := hl
  refine lv_iload_n hx hb dX10_isIn_0 rfl (lv_at hl 0 rfl) ?_
  refine lv_iload_n hx hb dX10_isIn_1 rfl (lv_at hl 1 rfl) ?_
  refine lv_icmp_lt (tgt := 14) hx hb dX10_isIn_2 (by decide) (fun c2 => ?_) (fun c2 => ?_)
  ·
    refine lv_iconst (v := 0) hx hb dX10_isIn_14 (by decide) ?_
    exact p_zret S hr hlocks (by decide) (congrArg (fun z => some (Value.int z)) (by simp only [fIn, eq_true c2, ↓reduceIte])) dX10_isIn_15
  ·
    refine lv_iload_n hx hb dX10_isIn_5 rfl (lv_at hl 0 rfl) ?_
    refine lv_iload_n hx hb dX10_isIn_6 rfl (lv_at hl 2 rfl) ?_
    refine lv_icmp_gt (tgt := 14) hx hb dX10_isIn_7 (by decide) (fun c7 => ?_) (fun c7 => ?_)
    ·
      refine lv_iconst (v := 0) hx hb dX10_isIn_14 (by decide) ?_
      exact p_zret S hr hlocks (by decide) (congrArg (fun z => some (Value.int z)) (by simp only [fIn, eq_false c2, eq_true c7, ↓reduceIte])) dX10_isIn_15
    ·
      refine lv_iconst (v := 1) hx hb dX10_isIn_10 (by decide) ?_
      refine lv_goto (tgt := 15) hx hb dX10_isIn_11 (by decide) ?_
      exact p_zret S hr hlocks (by decide) (congrArg (fun z => some (Value.int z)) (by simp only [fIn, eq_false c2, eq_false c7, ↓reduceIte])) dX10_isIn_15
set_option maxHeartbeats 4000000 in
set_option maxRecDepth 100000 in
theorem c_X10_steps {l : Launch} (x : Int32) (y : Int32) (u : Int32) (v : Int32) : pMet l yX10_steps wsX10_steps 0 0 [.int x, .int y, .int u, .int v] (some (.int (fSt x y u v))) := by
  refine Met.ofW (cc := cX10_steps) (maxL := 6) (ret := (some .int)) (by decide) rfl ?_
  intro p0 e0 s0 m0 args below meth c0 s₁ B hml hv
  obtain ⟨rfl, -⟩ := hv
  have hx := B.exec
  have hb := B.bytes
  have hr := B.returns
  have hts := atoms_spec (ws := wsX10_steps) B.pre
  have hown : s0.vm.findClass RX10 = some m0.cls := findClass_of_methodNamed B.named
  have hlocks := B.notSynchronized
  have S : CallFix p0 m0 c0 cX10_steps 6 s0 _ wsX10_steps RX10 := ⟨hx, hb, hml, hown, hts⟩
  have hl := lv_entry ([.int x, .int y, .int u, .int v]) (n := 6) (Nat.le_of_ble_eq_true rfl)
  rw [lg_entry_eq]
  generalize (lg_sl ([.int x, .int y, .int u, .int v]) ++ List.replicate (6 - (lg_sl ([.int x, .int y, .int u, .int v])).length) Slot.unset).toArray = ls at hl ⊢
  have hl : lv_has ls 6 [(0, .int x), (1, .int y), (2, .int u), (3, .int v)] := hl
  refine lv_iload_n hx hb dX10_steps_0 rfl (lv_at hl 0 rfl) ?_
  refine lv_iload_n hx hb dX10_steps_1 rfl (lv_at hl 2 rfl) ?_
  refine lv_icmp_le (tgt := 11) hx hb dX10_steps_2 (by decide) (fun c2 => ?_) (fun c2 => ?_)
  ·
    refine lv_iload_n hx hb dX10_steps_11 rfl (lv_at hl 2 rfl) ?_
    refine lv_iload_n hx hb dX10_steps_12 rfl (lv_at hl 0 rfl) ?_
    refine lv_isub hx hb dX10_steps_13 ?_
    refine lv_istore (lv' := [(4, .int (u - x)), (0, .int x), (1, .int y), (2, .int u), (3, .int v)]) hx hb dX10_steps_14 hl (by decide) rfl (fun ls hl => ?_)
    refine lv_iload_n hx hb dX10_steps_16 rfl (lv_at hl 2 rfl) ?_
    refine lv_iload_n hx hb dX10_steps_17 rfl (lv_at hl 4 rfl) ?_
    refine lv_icmp_le (tgt := 27) hx hb dX10_steps_18 (by decide) (fun c18 => ?_) (fun c18 => ?_)
    ·
      refine lv_iload_n hx hb dX10_steps_27 rfl (lv_at hl 4 rfl) ?_
      refine lv_iload_n hx hb dX10_steps_28 rfl (lv_at hl 2 rfl) ?_
      refine lv_isub hx hb dX10_steps_29 ?_
      refine lv_istore (lv' := [(5, .int (v - y)), (4, .int (u - x)), (0, .int x), (1, .int y), (2, .int u), (3, .int v)]) hx hb dX10_steps_30 hl (by decide) rfl (fun ls hl => ?_)
      refine lv_iload hx hb dX10_steps_32 (lv_at hl 1 rfl) ?_
      refine lv_iload hx hb dX10_steps_34 (lv_at hl 0 rfl) ?_
      refine lv_icmp_le (tgt := 44) hx hb dX10_steps_36 (by decide) (fun c36 => ?_) (fun c36 => ?_)
      ·
        refine lv_iload hx hb dX10_steps_44 (lv_at hl 0 rfl) ?_
        exact p_iret S hr hlocks (congrArg (fun z => some (Value.int z)) (by simp only [fSt, fAb, eq_true c2, eq_true c18, eq_true c36, ↓reduceIte])) dX10_steps_46
      ·
        refine lv_iload hx hb dX10_steps_39 (lv_at hl 1 rfl) ?_
        refine lv_goto (tgt := 46) hx hb dX10_steps_41 (by decide) ?_
        exact p_iret S hr hlocks (congrArg (fun z => some (Value.int z)) (by simp only [fSt, fAb, eq_true c2, eq_true c18, eq_false c36, ↓reduceIte])) dX10_steps_46
    ·
      refine lv_iload_n hx hb dX10_steps_21 rfl (lv_at hl 2 rfl) ?_
      refine lv_iload_n hx hb dX10_steps_22 rfl (lv_at hl 4 rfl) ?_
      refine lv_isub hx hb dX10_steps_23 ?_
      refine lv_goto (tgt := 30) hx hb dX10_steps_24 (by decide) ?_
      refine lv_istore (lv' := [(5, .int (y - v)), (4, .int (u - x)), (0, .int x), (1, .int y), (2, .int u), (3, .int v)]) hx hb dX10_steps_30 hl (by decide) rfl (fun ls hl => ?_)
      refine lv_iload hx hb dX10_steps_32 (lv_at hl 1 rfl) ?_
      refine lv_iload hx hb dX10_steps_34 (lv_at hl 0 rfl) ?_
      refine lv_icmp_le (tgt := 44) hx hb dX10_steps_36 (by decide) (fun c36 => ?_) (fun c36 => ?_)
      ·
        refine lv_iload hx hb dX10_steps_44 (lv_at hl 0 rfl) ?_
        exact p_iret S hr hlocks (congrArg (fun z => some (Value.int z)) (by simp only [fSt, fAb, eq_true c2, eq_false c18, eq_true c36, ↓reduceIte])) dX10_steps_46
      ·
        refine lv_iload hx hb dX10_steps_39 (lv_at hl 1 rfl) ?_
        refine lv_goto (tgt := 46) hx hb dX10_steps_41 (by decide) ?_
        exact p_iret S hr hlocks (congrArg (fun z => some (Value.int z)) (by simp only [fSt, fAb, eq_true c2, eq_false c18, eq_false c36, ↓reduceIte])) dX10_steps_46
  ·
    refine lv_iload_n hx hb dX10_steps_5 rfl (lv_at hl 0 rfl) ?_
    refine lv_iload_n hx hb dX10_steps_6 rfl (lv_at hl 2 rfl) ?_
    refine lv_isub hx hb dX10_steps_7 ?_
    refine lv_goto (tgt := 14) hx hb dX10_steps_8 (by decide) ?_
    refine lv_istore (lv' := [(4, .int (x - u)), (0, .int x), (1, .int y), (2, .int u), (3, .int v)]) hx hb dX10_steps_14 hl (by decide) rfl (fun ls hl => ?_)
    refine lv_iload_n hx hb dX10_steps_16 rfl (lv_at hl 2 rfl) ?_
    refine lv_iload_n hx hb dX10_steps_17 rfl (lv_at hl 4 rfl) ?_
    refine lv_icmp_le (tgt := 27) hx hb dX10_steps_18 (by decide) (fun c18 => ?_) (fun c18 => ?_)
    ·
      refine lv_iload_n hx hb dX10_steps_27 rfl (lv_at hl 4 rfl) ?_
      refine lv_iload_n hx hb dX10_steps_28 rfl (lv_at hl 2 rfl) ?_
      refine lv_isub hx hb dX10_steps_29 ?_
      refine lv_istore (lv' := [(5, .int (v - y)), (4, .int (x - u)), (0, .int x), (1, .int y), (2, .int u), (3, .int v)]) hx hb dX10_steps_30 hl (by decide) rfl (fun ls hl => ?_)
      refine lv_iload hx hb dX10_steps_32 (lv_at hl 1 rfl) ?_
      refine lv_iload hx hb dX10_steps_34 (lv_at hl 0 rfl) ?_
      refine lv_icmp_le (tgt := 44) hx hb dX10_steps_36 (by decide) (fun c36 => ?_) (fun c36 => ?_)
      ·
        refine lv_iload hx hb dX10_steps_44 (lv_at hl 0 rfl) ?_
        exact p_iret S hr hlocks (congrArg (fun z => some (Value.int z)) (by simp only [fSt, fAb, eq_false c2, eq_true c18, eq_true c36, ↓reduceIte])) dX10_steps_46
      ·
        refine lv_iload hx hb dX10_steps_39 (lv_at hl 1 rfl) ?_
        refine lv_goto (tgt := 46) hx hb dX10_steps_41 (by decide) ?_
        exact p_iret S hr hlocks (congrArg (fun z => some (Value.int z)) (by simp only [fSt, fAb, eq_false c2, eq_true c18, eq_false c36, ↓reduceIte])) dX10_steps_46
    ·
      refine lv_iload_n hx hb dX10_steps_21 rfl (lv_at hl 2 rfl) ?_
      refine lv_iload_n hx hb dX10_steps_22 rfl (lv_at hl 4 rfl) ?_
      refine lv_isub hx hb dX10_steps_23 ?_
      refine lv_goto (tgt := 30) hx hb dX10_steps_24 (by decide) ?_
      refine lv_istore (lv' := [(5, .int (y - v)), (4, .int (x - u)), (0, .int x), (1, .int y), (2, .int u), (3, .int v)]) hx hb dX10_steps_30 hl (by decide) rfl (fun ls hl => ?_)
      refine lv_iload hx hb dX10_steps_32 (lv_at hl 1 rfl) ?_
      refine lv_iload hx hb dX10_steps_34 (lv_at hl 0 rfl) ?_
      refine lv_icmp_le (tgt := 44) hx hb dX10_steps_36 (by decide) (fun c36 => ?_) (fun c36 => ?_)
      ·
        refine lv_iload hx hb dX10_steps_44 (lv_at hl 0 rfl) ?_
        exact p_iret S hr hlocks (congrArg (fun z => some (Value.int z)) (by simp only [fSt, fAb, eq_false c2, eq_false c18, eq_true c36, ↓reduceIte])) dX10_steps_46
      ·
        refine lv_iload hx hb dX10_steps_39 (lv_at hl 1 rfl) ?_
        refine lv_goto (tgt := 46) hx hb dX10_steps_41 (by decide) ?_
        exact p_iret S hr hlocks (congrArg (fun z => some (Value.int z)) (by simp only [fSt, fAb, eq_false c2, eq_false c18, eq_false c36, ↓reduceIte])) dX10_steps_46
set_option maxHeartbeats 4000000 in
set_option maxRecDepth 100000 in
theorem c_X10_held {l : Launch} (v : Int32) : pMet l yX10_held wsX10_held 0 0 [.int v] (some (.int (fHe v))) := by
  refine Met.ofW (cc := cX10_held) (maxL := 1) (ret := (some .int)) (by decide) rfl ?_
  intro p0 e0 s0 m0 args below meth c0 s₁ B hml hv
  obtain ⟨rfl, -⟩ := hv
  have hx := B.exec
  have hb := B.bytes
  have hr := B.returns
  have hts := atoms_spec (ws := wsX10_held) B.pre
  have hown : s0.vm.findClass RX10 = some m0.cls := findClass_of_methodNamed B.named
  have hlocks := B.notSynchronized
  have S : CallFix p0 m0 c0 cX10_held 1 s0 _ wsX10_held RX10 := ⟨hx, hb, hml, hown, hts⟩
  have hl := lv_entry ([.int v]) (n := 1) (Nat.le_of_ble_eq_true rfl)
  rw [lg_entry_eq]
  generalize (lg_sl ([.int v]) ++ List.replicate (1 - (lg_sl ([.int v])).length) Slot.unset).toArray = ls at hl ⊢
  have hl : lv_has ls 1 [(0, .int v)] := hl
  refine lv_iload_n hx hb dX10_held_0 rfl (lv_at hl 0 rfl) ?_
  refine lv_if_ge (tgt := 8) hx hb dX10_held_1 (by decide) (fun c1 => ?_) (fun c1 => ?_)
  ·
    refine lv_iload_n hx hb dX10_held_8 rfl (lv_at hl 0 rfl) ?_
    refine lv_bipush (v := 19) hx hb dX10_held_9 (by decide) ?_
    refine lv_icmp_le (tgt := 19) hx hb dX10_held_11 (by decide) (fun c11 => ?_) (fun c11 => ?_)
    ·
      refine lv_iload_n hx hb dX10_held_19 rfl (lv_at hl 0 rfl) ?_
      exact p_iret S hr hlocks (congrArg (fun z => some (Value.int z)) (by simp only [fHe, eq_true c1, eq_true c11, ↓reduceIte])) dX10_held_20
    ·
      refine lv_bipush (v := 19) hx hb dX10_held_14 (by decide) ?_
      refine lv_goto (tgt := 20) hx hb dX10_held_16 (by decide) ?_
      exact p_iret S hr hlocks (congrArg (fun z => some (Value.int z)) (by simp only [fHe, eq_true c1, eq_false c11, ↓reduceIte])) dX10_held_20
  ·
    refine lv_iconst (v := 0) hx hb dX10_held_4 (by decide) ?_
    refine lv_goto (tgt := 20) hx hb dX10_held_5 (by decide) ?_
    exact p_iret S hr hlocks (congrArg (fun z => some (Value.int z)) (by simp only [fHe, eq_false c1, ↓reduceIte])) dX10_held_20
set_option maxHeartbeats 4000000 in
set_option maxRecDepth 100000 in
theorem c_X10_taken {l : Launch} (w : Int32) : pMet l yX10_taken wsX10_taken 0 0 [.int w] (some (.int (fTa w))) := by
  refine Met.ofW (cc := cX10_taken) (maxL := 1) (ret := (some .int)) (by decide) rfl ?_
  intro p0 e0 s0 m0 args below meth c0 s₁ B hml hv
  obtain ⟨rfl, -⟩ := hv
  have hx := B.exec
  have hb := B.bytes
  have hr := B.returns
  have hts := atoms_spec (ws := wsX10_taken) B.pre
  have hown : s0.vm.findClass RX10 = some m0.cls := findClass_of_methodNamed B.named
  have hlocks := B.notSynchronized
  have S : CallFix p0 m0 c0 cX10_taken 1 s0 _ wsX10_taken RX10 := ⟨hx, hb, hml, hown, hts⟩
  have hl := lv_entry ([.int w]) (n := 1) (Nat.le_of_ble_eq_true rfl)
  rw [lg_entry_eq]
  generalize (lg_sl ([.int w]) ++ List.replicate (1 - (lg_sl ([.int w])).length) Slot.unset).toArray = ls at hl ⊢
  have hl : lv_has ls 1 [(0, .int w)] := hl
  refine lv_iload_n hx hb dX10_taken_0 rfl (lv_at hl 0 rfl) ?_
  refine lv_bipush (v := 25) hx hb dX10_taken_1 (by decide) ?_
  refine lv_icmp_lt (tgt := 10) hx hb dX10_taken_3 (by decide) (fun c3 => ?_) (fun c3 => ?_)
  ·
    refine lv_iload_n hx hb dX10_taken_10 rfl (lv_at hl 0 rfl) ?_
    refine lv_bipush (v := 18) hx hb dX10_taken_11 (by decide) ?_
    refine lv_icmp_lt (tgt := 20) hx hb dX10_taken_13 (by decide) (fun c13 => ?_) (fun c13 => ?_)
    ·
      refine lv_iconst (v := 1) hx hb dX10_taken_20 (by decide) ?_
      exact p_iret S hr hlocks (congrArg (fun z => some (Value.int z)) (by simp only [fTa, eq_true c3, eq_true c13, ↓reduceIte])) dX10_taken_21
    ·
      refine lv_iconst (v := 2) hx hb dX10_taken_16 (by decide) ?_
      refine lv_goto (tgt := 21) hx hb dX10_taken_17 (by decide) ?_
      exact p_iret S hr hlocks (congrArg (fun z => some (Value.int z)) (by simp only [fTa, eq_true c3, eq_false c13, ↓reduceIte])) dX10_taken_21
  ·
    refine lv_iconst (v := 3) hx hb dX10_taken_6 (by decide) ?_
    refine lv_goto (tgt := 21) hx hb dX10_taken_7 (by decide) ?_
    exact p_iret S hr hlocks (congrArg (fun z => some (Value.int z)) (by simp only [fTa, eq_false c3, ↓reduceIte])) dX10_taken_21
set_option maxHeartbeats 4000000 in
set_option maxRecDepth 100000 in
theorem c_X10_isLetter {l : Launch} (b : Int32) : pMet l yX10_isLetter wsX10_isLetter 0 0 [.int b] (some (.int (fLe b))) := by
  refine Met.ofW (cc := cX10_isLetter) (maxL := 1) (ret := (some .boolean)) (by decide) rfl ?_
  intro p0 e0 s0 m0 args below meth c0 s₁ B hml hv
  obtain ⟨rfl, -⟩ := hv
  have hx := B.exec
  have hb := B.bytes
  have hr := B.returns
  have hts := atoms_spec (ws := wsX10_isLetter) B.pre
  have hown : s0.vm.findClass RX10 = some m0.cls := findClass_of_methodNamed B.named
  have hlocks := B.notSynchronized
  have S : CallFix p0 m0 c0 cX10_isLetter 1 s0 _ wsX10_isLetter RX10 := ⟨hx, hb, hml, hown, hts⟩
  have hl := lv_entry ([.int b]) (n := 1) (Nat.le_of_ble_eq_true rfl)
  rw [lg_entry_eq]
  generalize (lg_sl ([.int b]) ++ List.replicate (1 - (lg_sl ([.int b])).length) Slot.unset).toArray = ls at hl ⊢
  have hl : lv_has ls 1 [(0, .int b)] := hl
  refine lv_iload_n hx hb dX10_isLetter_0 rfl (lv_at hl 0 rfl) ?_
  refine lv_bipush (v := 97) hx hb dX10_isLetter_1 (by decide) ?_
  refine lv_icmp_lt (tgt := 16) hx hb dX10_isLetter_3 (by decide) (fun c3 => ?_) (fun c3 => ?_)
  ·
    refine lv_iconst (v := 0) hx hb dX10_isLetter_16 (by decide) ?_
    exact p_zret S hr hlocks (by decide) (congrArg (fun z => some (Value.int z)) (by simp only [fLe, eq_true c3, ↓reduceIte])) dX10_isLetter_17
  ·
    refine lv_iload_n hx hb dX10_isLetter_6 rfl (lv_at hl 0 rfl) ?_
    refine lv_bipush (v := 122) hx hb dX10_isLetter_7 (by decide) ?_
    refine lv_icmp_gt (tgt := 16) hx hb dX10_isLetter_9 (by decide) (fun c9 => ?_) (fun c9 => ?_)
    ·
      refine lv_iconst (v := 0) hx hb dX10_isLetter_16 (by decide) ?_
      exact p_zret S hr hlocks (by decide) (congrArg (fun z => some (Value.int z)) (by simp only [fLe, eq_false c3, eq_true c9, ↓reduceIte])) dX10_isLetter_17
    ·
      refine lv_iconst (v := 1) hx hb dX10_isLetter_12 (by decide) ?_
      refine lv_goto (tgt := 17) hx hb dX10_isLetter_13 (by decide) ?_
      exact p_zret S hr hlocks (by decide) (congrArg (fun z => some (Value.int z)) (by simp only [fLe, eq_false c3, eq_false c9, ↓reduceIte])) dX10_isLetter_17
set_option maxHeartbeats 4000000 in
set_option maxRecDepth 100000 in
theorem c_X10_isDigit {l : Launch} (b : Int32) : pMet l yX10_isDigit wsX10_isDigit 0 0 [.int b] (some (.int (fDi b))) := by
  refine Met.ofW (cc := cX10_isDigit) (maxL := 1) (ret := (some .boolean)) (by decide) rfl ?_
  intro p0 e0 s0 m0 args below meth c0 s₁ B hml hv
  obtain ⟨rfl, -⟩ := hv
  have hx := B.exec
  have hb := B.bytes
  have hr := B.returns
  have hts := atoms_spec (ws := wsX10_isDigit) B.pre
  have hown : s0.vm.findClass RX10 = some m0.cls := findClass_of_methodNamed B.named
  have hlocks := B.notSynchronized
  have S : CallFix p0 m0 c0 cX10_isDigit 1 s0 _ wsX10_isDigit RX10 := ⟨hx, hb, hml, hown, hts⟩
  have hl := lv_entry ([.int b]) (n := 1) (Nat.le_of_ble_eq_true rfl)
  rw [lg_entry_eq]
  generalize (lg_sl ([.int b]) ++ List.replicate (1 - (lg_sl ([.int b])).length) Slot.unset).toArray = ls at hl ⊢
  have hl : lv_has ls 1 [(0, .int b)] := hl
  refine lv_iload_n hx hb dX10_isDigit_0 rfl (lv_at hl 0 rfl) ?_
  refine lv_bipush (v := 48) hx hb dX10_isDigit_1 (by decide) ?_
  refine lv_icmp_lt (tgt := 16) hx hb dX10_isDigit_3 (by decide) (fun c3 => ?_) (fun c3 => ?_)
  ·
    refine lv_iconst (v := 0) hx hb dX10_isDigit_16 (by decide) ?_
    exact p_zret S hr hlocks (by decide) (congrArg (fun z => some (Value.int z)) (by simp only [fDi, eq_true c3, ↓reduceIte])) dX10_isDigit_17
  ·
    refine lv_iload_n hx hb dX10_isDigit_6 rfl (lv_at hl 0 rfl) ?_
    refine lv_bipush (v := 57) hx hb dX10_isDigit_7 (by decide) ?_
    refine lv_icmp_gt (tgt := 16) hx hb dX10_isDigit_9 (by decide) (fun c9 => ?_) (fun c9 => ?_)
    ·
      refine lv_iconst (v := 0) hx hb dX10_isDigit_16 (by decide) ?_
      exact p_zret S hr hlocks (by decide) (congrArg (fun z => some (Value.int z)) (by simp only [fDi, eq_false c3, eq_true c9, ↓reduceIte])) dX10_isDigit_17
    ·
      refine lv_iconst (v := 1) hx hb dX10_isDigit_12 (by decide) ?_
      refine lv_goto (tgt := 17) hx hb dX10_isDigit_13 (by decide) ?_
      exact p_zret S hr hlocks (by decide) (congrArg (fun z => some (Value.int z)) (by simp only [fDi, eq_false c3, eq_false c9, ↓reduceIte])) dX10_isDigit_17
set_option maxHeartbeats 4000000 in
set_option maxRecDepth 100000 in
theorem c_X10_isHive {l : Launch} {D : va_G} {cI cZ cB cO cR cJ : ClassId} {Hb : Heap} {lv : Nat → Prop} {ad : Nat → Nat} {ce0 : Nat → va_E} (hlv : lM lv) (h : Int32) (s : Nat → Int32) (r : Nat → Nat → Int32)  : mMet l D cI cZ cB cO cR cJ Hb lv ad ce0 yX10_isHive wsX10_isHive 0 0 [.ref (ad 0), .int h] s r (some (.int (fIs (s 6) h))) s r := by
  refine Met.ofW (cc := cX10_isHive) (maxL := 2) (ret := (some .boolean)) (by decide) rfl ?_
  intro p0 e0 s0 m0 args below meth c0 s₁ B hml hv
  obtain ⟨rfl, hG, hK⟩ := hv
  have hx := B.exec
  have hb := B.bytes
  have hr := B.returns
  have hts := atoms_spec (ws := wsX10_isHive) B.pre
  have hown : s0.vm.findClass RX10 = some m0.cls := findClass_of_methodNamed B.named
  have hlocks := B.notSynchronized
  have S : mX p0 m0 c0 cX10_isHive 2 s0 _ wsX10_isHive D cI cZ cB cO cR cJ lv := ⟨⟨hx, hb, hml, hown, hts⟩, hK, fun w h => List.mem_cons_of_mem _ (List.mem_append_right _ h), hlv⟩
  have hL : gL Hb [] := gL.nil
  have hl := lv_entry ([.ref (ad 0), .int h]) (n := 2) (Nat.le_of_ble_eq_true rfl)
  rw [lg_entry_eq]
  generalize (lg_sl ([.ref (ad 0), .int h]) ++ List.replicate (2 - (lg_sl ([.ref (ad 0), .int h])).length) Slot.unset).toArray = ls at hl ⊢
  have hl : lv_has ls 2 [(0, .ref (ad 0)), (1, .int h)] := hl
  refine lv_iload_n hx hb dX10_isHive_0 rfl (lv_at hl 1 rfl) ?_
  refine lv_if_lt (tgt := 16) hx hb dX10_isHive_1 (by decide) (fun c1 => ?_) (fun c1 => ?_)
  ·
    refine lv_iconst (v := 0) hx hb dX10_isHive_16 (by decide) ?_
    exact m_zret S hr hlocks (by decide) hG hL dX10_isHive_17 (by simp only [fIs, eq_true c1, ↓reduceIte]) (by rfl) (by rfl)
  ·
    refine lv_iload_n hx hb dX10_isHive_4 rfl (lv_at hl 1 rfl) ?_
    refine lv_aload_n hx hb dX10_isHive_5 rfl (lv_at hl 0 rfl) ?_
    refine m_gi (v := s 6) S hG 6 rfl (hts (.fieldLink RX10 183 "SwarmLineModel" "hives" "I") (by decide +kernel)) dX10_isHive_6 rfl ?_
    refine lv_icmp_ge (tgt := 16) hx hb dX10_isHive_9 (by decide) (fun c9 => ?_) (fun c9 => ?_)
    ·
      refine lv_iconst (v := 0) hx hb dX10_isHive_16 (by decide) ?_
      exact m_zret S hr hlocks (by decide) hG hL dX10_isHive_17 (by simp only [fIs, eq_false c1, eq_true c9, ↓reduceIte]) (by rfl) (by rfl)
    ·
      refine lv_iconst (v := 1) hx hb dX10_isHive_12 (by decide) ?_
      refine lv_goto (tgt := 17) hx hb dX10_isHive_13 (by decide) ?_
      exact m_zret S hr hlocks (by decide) hG hL dX10_isHive_17 (by simp only [fIs, eq_false c1, eq_false c9, ↓reduceIte]) (by rfl) (by rfl)
set_option maxHeartbeats 4000000 in
set_option maxRecDepth 100000 in
theorem c_X10_isSwarm {l : Launch} {D : va_G} {cI cZ cB cO cR cJ : ClassId} {Hb : Heap} {lv : Nat → Prop} {ad : Nat → Nat} {ce0 : Nat → va_E} (hlv : lM lv) (h : Int32) (s : Nat → Int32) (r : Nat → Nat → Int32)  : mMet l D cI cZ cB cO cR cJ Hb lv ad ce0 yX10_isSwarm wsX10_isSwarm 0 0 [.ref (ad 0), .int h] s r (some (.int (fIs (s 14) h))) s r := by
  refine Met.ofW (cc := cX10_isSwarm) (maxL := 2) (ret := (some .boolean)) (by decide) rfl ?_
  intro p0 e0 s0 m0 args below meth c0 s₁ B hml hv
  obtain ⟨rfl, hG, hK⟩ := hv
  have hx := B.exec
  have hb := B.bytes
  have hr := B.returns
  have hts := atoms_spec (ws := wsX10_isSwarm) B.pre
  have hown : s0.vm.findClass RX10 = some m0.cls := findClass_of_methodNamed B.named
  have hlocks := B.notSynchronized
  have S : mX p0 m0 c0 cX10_isSwarm 2 s0 _ wsX10_isSwarm D cI cZ cB cO cR cJ lv := ⟨⟨hx, hb, hml, hown, hts⟩, hK, fun w h => List.mem_cons_of_mem _ (List.mem_append_right _ h), hlv⟩
  have hL : gL Hb [] := gL.nil
  have hl := lv_entry ([.ref (ad 0), .int h]) (n := 2) (Nat.le_of_ble_eq_true rfl)
  rw [lg_entry_eq]
  generalize (lg_sl ([.ref (ad 0), .int h]) ++ List.replicate (2 - (lg_sl ([.ref (ad 0), .int h])).length) Slot.unset).toArray = ls at hl ⊢
  have hl : lv_has ls 2 [(0, .ref (ad 0)), (1, .int h)] := hl
  refine lv_iload_n hx hb dX10_isSwarm_0 rfl (lv_at hl 1 rfl) ?_
  refine lv_if_lt (tgt := 16) hx hb dX10_isSwarm_1 (by decide) (fun c1 => ?_) (fun c1 => ?_)
  ·
    refine lv_iconst (v := 0) hx hb dX10_isSwarm_16 (by decide) ?_
    exact m_zret S hr hlocks (by decide) hG hL dX10_isSwarm_17 (by simp only [fIs, eq_true c1, ↓reduceIte]) (by rfl) (by rfl)
  ·
    refine lv_iload_n hx hb dX10_isSwarm_4 rfl (lv_at hl 1 rfl) ?_
    refine lv_aload_n hx hb dX10_isSwarm_5 rfl (lv_at hl 0 rfl) ?_
    refine m_gi (v := s 14) S hG 14 rfl (hts (.fieldLink RX10 186 "SwarmLineModel" "swarms" "I") (by decide +kernel)) dX10_isSwarm_6 rfl ?_
    refine lv_icmp_ge (tgt := 16) hx hb dX10_isSwarm_9 (by decide) (fun c9 => ?_) (fun c9 => ?_)
    ·
      refine lv_iconst (v := 0) hx hb dX10_isSwarm_16 (by decide) ?_
      exact m_zret S hr hlocks (by decide) hG hL dX10_isSwarm_17 (by simp only [fIs, eq_false c1, eq_true c9, ↓reduceIte]) (by rfl) (by rfl)
    ·
      refine lv_iconst (v := 1) hx hb dX10_isSwarm_12 (by decide) ?_
      refine lv_goto (tgt := 17) hx hb dX10_isSwarm_13 (by decide) ?_
      exact m_zret S hr hlocks (by decide) hG hL dX10_isSwarm_17 (by simp only [fIs, eq_false c1, eq_false c9, ↓reduceIte]) (by rfl) (by rfl)
set_option maxHeartbeats 4000000 in
set_option maxRecDepth 100000 in
theorem c_X10_isKeeper {l : Launch} {D : va_G} {cI cZ cB cO cR cJ : ClassId} {Hb : Heap} {lv : Nat → Prop} {ad : Nat → Nat} {ce0 : Nat → va_E} (hlv : lM lv) (h : Int32) (s : Nat → Int32) (r : Nat → Nat → Int32)  : mMet l D cI cZ cB cO cR cJ Hb lv ad ce0 yX10_isKeeper wsX10_isKeeper 0 0 [.ref (ad 0), .int h] s r (some (.int (fIs (s 26) h))) s r := by
  refine Met.ofW (cc := cX10_isKeeper) (maxL := 2) (ret := (some .boolean)) (by decide) rfl ?_
  intro p0 e0 s0 m0 args below meth c0 s₁ B hml hv
  obtain ⟨rfl, hG, hK⟩ := hv
  have hx := B.exec
  have hb := B.bytes
  have hr := B.returns
  have hts := atoms_spec (ws := wsX10_isKeeper) B.pre
  have hown : s0.vm.findClass RX10 = some m0.cls := findClass_of_methodNamed B.named
  have hlocks := B.notSynchronized
  have S : mX p0 m0 c0 cX10_isKeeper 2 s0 _ wsX10_isKeeper D cI cZ cB cO cR cJ lv := ⟨⟨hx, hb, hml, hown, hts⟩, hK, fun w h => List.mem_cons_of_mem _ (List.mem_append_right _ h), hlv⟩
  have hL : gL Hb [] := gL.nil
  have hl := lv_entry ([.ref (ad 0), .int h]) (n := 2) (Nat.le_of_ble_eq_true rfl)
  rw [lg_entry_eq]
  generalize (lg_sl ([.ref (ad 0), .int h]) ++ List.replicate (2 - (lg_sl ([.ref (ad 0), .int h])).length) Slot.unset).toArray = ls at hl ⊢
  have hl : lv_has ls 2 [(0, .ref (ad 0)), (1, .int h)] := hl
  refine lv_iload_n hx hb dX10_isKeeper_0 rfl (lv_at hl 1 rfl) ?_
  refine lv_if_lt (tgt := 16) hx hb dX10_isKeeper_1 (by decide) (fun c1 => ?_) (fun c1 => ?_)
  ·
    refine lv_iconst (v := 0) hx hb dX10_isKeeper_16 (by decide) ?_
    exact m_zret S hr hlocks (by decide) hG hL dX10_isKeeper_17 (by simp only [fIs, eq_true c1, ↓reduceIte]) (by rfl) (by rfl)
  ·
    refine lv_iload_n hx hb dX10_isKeeper_4 rfl (lv_at hl 1 rfl) ?_
    refine lv_aload_n hx hb dX10_isKeeper_5 rfl (lv_at hl 0 rfl) ?_
    refine m_gi (v := s 26) S hG 26 rfl (hts (.fieldLink RX10 189 "SwarmLineModel" "keepers" "I") (by decide +kernel)) dX10_isKeeper_6 rfl ?_
    refine lv_icmp_ge (tgt := 16) hx hb dX10_isKeeper_9 (by decide) (fun c9 => ?_) (fun c9 => ?_)
    ·
      refine lv_iconst (v := 0) hx hb dX10_isKeeper_16 (by decide) ?_
      exact m_zret S hr hlocks (by decide) hG hL dX10_isKeeper_17 (by simp only [fIs, eq_false c1, eq_true c9, ↓reduceIte]) (by rfl) (by rfl)
    ·
      refine lv_iconst (v := 1) hx hb dX10_isKeeper_12 (by decide) ?_
      refine lv_goto (tgt := 17) hx hb dX10_isKeeper_13 (by decide) ?_
      exact m_zret S hr hlocks (by decide) hG hL dX10_isKeeper_17 (by simp only [fIs, eq_false c1, eq_false c9, ↓reduceIte]) (by rfl) (by rfl)
set_option maxHeartbeats 4000000 in
set_option maxRecDepth 100000 in
theorem c_X10_isCase {l : Launch} {D : va_G} {cI cZ cB cO cR cJ : ClassId} {Hb : Heap} {lv : Nat → Prop} {ad : Nat → Nat} {ce0 : Nat → va_E} (hlv : lM lv) (h : Int32) (s : Nat → Int32) (r : Nat → Nat → Int32)  : mMet l D cI cZ cB cO cR cJ Hb lv ad ce0 yX10_isCase wsX10_isCase 0 0 [.ref (ad 0), .int h] s r (some (.int (fIs (s 39) h))) s r := by
  refine Met.ofW (cc := cX10_isCase) (maxL := 2) (ret := (some .boolean)) (by decide) rfl ?_
  intro p0 e0 s0 m0 args below meth c0 s₁ B hml hv
  obtain ⟨rfl, hG, hK⟩ := hv
  have hx := B.exec
  have hb := B.bytes
  have hr := B.returns
  have hts := atoms_spec (ws := wsX10_isCase) B.pre
  have hown : s0.vm.findClass RX10 = some m0.cls := findClass_of_methodNamed B.named
  have hlocks := B.notSynchronized
  have S : mX p0 m0 c0 cX10_isCase 2 s0 _ wsX10_isCase D cI cZ cB cO cR cJ lv := ⟨⟨hx, hb, hml, hown, hts⟩, hK, fun w h => List.mem_cons_of_mem _ (List.mem_append_right _ h), hlv⟩
  have hL : gL Hb [] := gL.nil
  have hl := lv_entry ([.ref (ad 0), .int h]) (n := 2) (Nat.le_of_ble_eq_true rfl)
  rw [lg_entry_eq]
  generalize (lg_sl ([.ref (ad 0), .int h]) ++ List.replicate (2 - (lg_sl ([.ref (ad 0), .int h])).length) Slot.unset).toArray = ls at hl ⊢
  have hl : lv_has ls 2 [(0, .ref (ad 0)), (1, .int h)] := hl
  refine lv_iload_n hx hb dX10_isCase_0 rfl (lv_at hl 1 rfl) ?_
  refine lv_if_lt (tgt := 16) hx hb dX10_isCase_1 (by decide) (fun c1 => ?_) (fun c1 => ?_)
  ·
    refine lv_iconst (v := 0) hx hb dX10_isCase_16 (by decide) ?_
    exact m_zret S hr hlocks (by decide) hG hL dX10_isCase_17 (by simp only [fIs, eq_true c1, ↓reduceIte]) (by rfl) (by rfl)
  ·
    refine lv_iload_n hx hb dX10_isCase_4 rfl (lv_at hl 1 rfl) ?_
    refine lv_aload_n hx hb dX10_isCase_5 rfl (lv_at hl 0 rfl) ?_
    refine m_gi (v := s 39) S hG 39 rfl (hts (.fieldLink RX10 192 "SwarmLineModel" "cases" "I") (by decide +kernel)) dX10_isCase_6 rfl ?_
    refine lv_icmp_ge (tgt := 16) hx hb dX10_isCase_9 (by decide) (fun c9 => ?_) (fun c9 => ?_)
    ·
      refine lv_iconst (v := 0) hx hb dX10_isCase_16 (by decide) ?_
      exact m_zret S hr hlocks (by decide) hG hL dX10_isCase_17 (by simp only [fIs, eq_false c1, eq_true c9, ↓reduceIte]) (by rfl) (by rfl)
    ·
      refine lv_iconst (v := 1) hx hb dX10_isCase_12 (by decide) ?_
      refine lv_goto (tgt := 17) hx hb dX10_isCase_13 (by decide) ?_
      exact m_zret S hr hlocks (by decide) hG hL dX10_isCase_17 (by simp only [fIs, eq_false c1, eq_false c9, ↓reduceIte]) (by rfl) (by rfl)
set_option maxHeartbeats 4000000 in
set_option maxRecDepth 100000 in
theorem c_X10_thrown {l : Launch} {D : va_G} {cI cZ cB cO cR cJ : ClassId} {Hb : Heap} {lv : Nat → Prop} {ad : Nat → Nat} {ce0 : Nat → va_E} (hlv : lM lv)  (s : Nat → Int32) (r : Nat → Nat → Int32)  : mMet l D cI cZ cB cO cR cJ Hb lv ad ce0 yX10_thrown wsX10_thrown 0 0 [.ref (ad 0)] s r (some (.int (s 0))) s r := by
  refine Met.ofW (cc := cX10_thrown) (maxL := 1) (ret := (some .int)) (by decide) rfl ?_
  intro p0 e0 s0 m0 args below meth c0 s₁ B hml hv
  obtain ⟨rfl, hG, hK⟩ := hv
  have hx := B.exec
  have hb := B.bytes
  have hr := B.returns
  have hts := atoms_spec (ws := wsX10_thrown) B.pre
  have hown : s0.vm.findClass RX10 = some m0.cls := findClass_of_methodNamed B.named
  have hlocks := B.notSynchronized
  have S : mX p0 m0 c0 cX10_thrown 1 s0 _ wsX10_thrown D cI cZ cB cO cR cJ lv := ⟨⟨hx, hb, hml, hown, hts⟩, hK, fun w h => List.mem_cons_of_mem _ (List.mem_append_right _ h), hlv⟩
  have hL : gL Hb [] := gL.nil
  have hl := lv_entry ([.ref (ad 0)]) (n := 1) (Nat.le_of_ble_eq_true rfl)
  rw [lg_entry_eq]
  generalize (lg_sl ([.ref (ad 0)]) ++ List.replicate (1 - (lg_sl ([.ref (ad 0)])).length) Slot.unset).toArray = ls at hl ⊢
  have hl : lv_has ls 1 [(0, .ref (ad 0))] := hl
  refine lv_aload_n hx hb dX10_thrown_0 rfl (lv_at hl 0 rfl) ?_
  refine m_gi (v := s 0) S hG 0 rfl (hts (.fieldLink RX10 180 "SwarmLineModel" "thrown" "I") (by decide +kernel)) dX10_thrown_1 rfl ?_
  exact m_iret S hr hlocks hG hL dX10_thrown_4 (by rfl) (by rfl) (by rfl)
set_option maxHeartbeats 4000000 in
set_option maxRecDepth 100000 in
theorem c_X10_byteCame {l : Launch} {D : va_G} {cI cZ cB cO cR cJ : ClassId} {Hb : Heap} {lv : Nat → Prop} {ad : Nat → Nat} {ce0 : Nat → va_E} (hlv : lM lv) (b : Int32) (s : Nat → Int32) (r : Nat → Nat → Int32) (h0 : 0 ≤ (s 61).toInt) (h1 : (s 61).toInt < 400) : mMet l D cI cZ cB cO cR cJ Hb lv ad ce0 yX10_byteCame wsX10_byteCame 0 0 [.ref (ad 0), .int b] s r none (upd s 61 (s 61 + 1)) (up2 r 60 (Int32.toNatClampNeg (s 61)) (b &&& 255)) := by
  refine Met.ofW (cc := cX10_byteCame) (maxL := 2) (ret := none) (by decide) rfl ?_
  intro p0 e0 s0 m0 args below meth c0 s₁ B hml hv
  obtain ⟨rfl, hG, hK⟩ := hv
  have hx := B.exec
  have hb := B.bytes
  have hr := B.returns
  have hts := atoms_spec (ws := wsX10_byteCame) B.pre
  have hown : s0.vm.findClass RX10 = some m0.cls := findClass_of_methodNamed B.named
  have hlocks := B.notSynchronized
  have S : mX p0 m0 c0 cX10_byteCame 2 s0 _ wsX10_byteCame D cI cZ cB cO cR cJ lv := ⟨⟨hx, hb, hml, hown, hts⟩, hK, fun w h => List.mem_cons_of_mem _ (List.mem_append_right _ h), hlv⟩
  have hL : gL Hb [] := gL.nil
  have hl := lv_entry ([.ref (ad 0), .int b]) (n := 2) (Nat.le_of_ble_eq_true rfl)
  rw [lg_entry_eq]
  generalize (lg_sl ([.ref (ad 0), .int b]) ++ List.replicate (2 - (lg_sl ([.ref (ad 0), .int b])).length) Slot.unset).toArray = ls at hl ⊢
  have hl : lv_has ls 2 [(0, .ref (ad 0)), (1, .int b)] := hl
  refine lv_aload_n hx hb dX10_byteCame_0 rfl (lv_at hl 0 rfl) ?_
  refine m_ga S hG 60 rfl (hts (.fieldLink RX10 161 "SwarmLineModel" "tape" "[I") (by decide +kernel)) dX10_byteCame_1 ?_
  refine lv_aload_n hx hb dX10_byteCame_4 rfl (lv_at hl 0 rfl) ?_
  refine m_gi (v := s 61) S hG 61 rfl (hts (.fieldLink RX10 195 "SwarmLineModel" "taped" "I") (by decide +kernel)) dX10_byteCame_5 rfl ?_
  refine lv_iload_n hx hb dX10_byteCame_8 rfl (lv_at hl 1 rfl) ?_
  refine lv_sipush (v := 255) hx hb dX10_byteCame_9 (by decide) ?_
  refine lv_iand hx hb dX10_byteCame_12 ?_
  refine m_st S hG hL 60 rfl (show vp_in (s 61) 400 from vp_in_t h0 h1) dX10_byteCame_13 (fun H locs hG hL => ?_)
  refine lv_aload_n hx hb dX10_byteCame_14 rfl (lv_at hl 0 rfl) ?_
  refine lv_dup hx hb dX10_byteCame_15 rfl ?_
  refine m_gi (v := s 61) S hG 61 rfl (hts (.fieldLink RX10 195 "SwarmLineModel" "taped" "I") (by decide +kernel)) dX10_byteCame_16 rfl ?_
  refine lv_iconst (v := 1) hx hb dX10_byteCame_19 (by decide) ?_
  refine lv_iadd hx hb dX10_byteCame_20 ?_
  refine m_pi S hG hL 61 rfl (hts (.fieldLink RX10 195 "SwarmLineModel" "taped" "I") (by decide +kernel)) dX10_byteCame_21 (fun H locs hG hL => ?_)
  exact m_vret S hr hlocks hG hL dX10_byteCame_24 (by rfl) (by rfl)
set_option maxHeartbeats 4000000 in
set_option maxRecDepth 100000 in
theorem c_X10_wrong {l : Launch} {D : va_G} {cI cZ cB cO cR cJ : ClassId} {Hb : Heap} {lv : Nat → Prop} {ad : Nat → Nat} {ce0 : Nat → va_E} (hlv : lM lv) (x : Int32) (s : Nat → Int32) (r : Nat → Nat → Int32)  : mMet l D cI cZ cB cO cR cJ Hb lv ad ce0 yX10_wrong wsX10_wrong 0 0 [.ref (ad 0), .int x] s r (some (.int (0))) (upd s 64 x) r := by
  refine Met.ofW (cc := cX10_wrong) (maxL := 2) (ret := (some .boolean)) (by decide) rfl ?_
  intro p0 e0 s0 m0 args below meth c0 s₁ B hml hv
  obtain ⟨rfl, hG, hK⟩ := hv
  have hx := B.exec
  have hb := B.bytes
  have hr := B.returns
  have hts := atoms_spec (ws := wsX10_wrong) B.pre
  have hown : s0.vm.findClass RX10 = some m0.cls := findClass_of_methodNamed B.named
  have hlocks := B.notSynchronized
  have S : mX p0 m0 c0 cX10_wrong 2 s0 _ wsX10_wrong D cI cZ cB cO cR cJ lv := ⟨⟨hx, hb, hml, hown, hts⟩, hK, fun w h => List.mem_cons_of_mem _ (List.mem_append_right _ h), hlv⟩
  have hL : gL Hb [] := gL.nil
  have hl := lv_entry ([.ref (ad 0), .int x]) (n := 2) (Nat.le_of_ble_eq_true rfl)
  rw [lg_entry_eq]
  generalize (lg_sl ([.ref (ad 0), .int x]) ++ List.replicate (2 - (lg_sl ([.ref (ad 0), .int x])).length) Slot.unset).toArray = ls at hl ⊢
  have hl : lv_has ls 2 [(0, .ref (ad 0)), (1, .int x)] := hl
  refine lv_aload_n hx hb dX10_wrong_0 rfl (lv_at hl 0 rfl) ?_
  refine lv_iload_n hx hb dX10_wrong_1 rfl (lv_at hl 1 rfl) ?_
  refine m_pi S hG hL 64 rfl (hts (.fieldLink RX10 164 "SwarmLineModel" "fault" "I") (by decide +kernel)) dX10_wrong_2 (fun H locs hG hL => ?_)
  refine lv_iconst (v := 0) hx hb dX10_wrong_5 (by decide) ?_
  exact m_zret S hr hlocks (by decide) hG hL dX10_wrong_6 (by rfl) (by rfl) (by rfl)
set_option maxHeartbeats 4000000 in
set_option maxRecDepth 100000 in
theorem c_X10_fault {l : Launch} {D : va_G} {cI cZ cB cO cR cJ : ClassId} {Hb : Heap} {lv : Nat → Prop} {ad : Nat → Nat} {ce0 : Nat → va_E} (hlv : lM lv)  (s : Nat → Int32) (r : Nat → Nat → Int32)  : mMet l D cI cZ cB cO cR cJ Hb lv ad ce0 yX10_fault wsX10_fault 0 0 [.ref (ad 0)] s r (some (.int (s 64))) (upd s 0 0) r := by
  refine Met.ofW (cc := cX10_fault) (maxL := 1) (ret := (some .int)) (by decide) rfl ?_
  intro p0 e0 s0 m0 args below meth c0 s₁ B hml hv
  obtain ⟨rfl, hG, hK⟩ := hv
  have hx := B.exec
  have hb := B.bytes
  have hr := B.returns
  have hts := atoms_spec (ws := wsX10_fault) B.pre
  have hown : s0.vm.findClass RX10 = some m0.cls := findClass_of_methodNamed B.named
  have hlocks := B.notSynchronized
  have S : mX p0 m0 c0 cX10_fault 1 s0 _ wsX10_fault D cI cZ cB cO cR cJ lv := ⟨⟨hx, hb, hml, hown, hts⟩, hK, fun w h => List.mem_cons_of_mem _ (List.mem_append_right _ h), hlv⟩
  have hL : gL Hb [] := gL.nil
  have hl := lv_entry ([.ref (ad 0)]) (n := 1) (Nat.le_of_ble_eq_true rfl)
  rw [lg_entry_eq]
  generalize (lg_sl ([.ref (ad 0)]) ++ List.replicate (1 - (lg_sl ([.ref (ad 0)])).length) Slot.unset).toArray = ls at hl ⊢
  have hl : lv_has ls 1 [(0, .ref (ad 0))] := hl
  refine lv_aload_n hx hb dX10_fault_0 rfl (lv_at hl 0 rfl) ?_
  refine lv_iconst (v := 0) hx hb dX10_fault_1 (by decide) ?_
  refine m_pi S hG hL 0 rfl (hts (.fieldLink RX10 180 "SwarmLineModel" "thrown" "I") (by decide +kernel)) dX10_fault_2 (fun H locs hG hL => ?_)
  refine lv_aload_n hx hb dX10_fault_5 rfl (lv_at hl 0 rfl) ?_
  refine m_gi (v := s 64) S hG 64 rfl (hts (.fieldLink RX10 164 "SwarmLineModel" "fault" "I") (by decide +kernel)) dX10_fault_6 rfl ?_
  exact m_iret S hr hlocks hG hL dX10_fault_9 (by rfl) (by rfl) (by rfl)
set_option maxHeartbeats 4000000 in
set_option maxRecDepth 100000 in
theorem c_X10_beginText {l : Launch} {D : va_G} {cI cZ cB cO cR cJ : ClassId} {Hb : Heap} {lv : Nat → Prop} {ad : Nat → Nat} {ce0 : Nat → va_E} (hlv : lM lv)  (s : Nat → Int32) (r : Nat → Nat → Int32)  : mMet l D cI cZ cB cO cR cJ Hb lv ad ce0 yX10_beginText wsX10_beginText 0 0 [.ref (ad 0)] s r none (upd (upd (upd (upd s 62 (s 61)) 61 0) 63 0) 64 (-1)) r := by
  refine Met.ofW (cc := cX10_beginText) (maxL := 1) (ret := none) (by decide) rfl ?_
  intro p0 e0 s0 m0 args below meth c0 s₁ B hml hv
  obtain ⟨rfl, hG, hK⟩ := hv
  have hx := B.exec
  have hb := B.bytes
  have hr := B.returns
  have hts := atoms_spec (ws := wsX10_beginText) B.pre
  have hown : s0.vm.findClass RX10 = some m0.cls := findClass_of_methodNamed B.named
  have hlocks := B.notSynchronized
  have S : mX p0 m0 c0 cX10_beginText 1 s0 _ wsX10_beginText D cI cZ cB cO cR cJ lv := ⟨⟨hx, hb, hml, hown, hts⟩, hK, fun w h => List.mem_cons_of_mem _ (List.mem_append_right _ h), hlv⟩
  have hL : gL Hb [] := gL.nil
  have hl := lv_entry ([.ref (ad 0)]) (n := 1) (Nat.le_of_ble_eq_true rfl)
  rw [lg_entry_eq]
  generalize (lg_sl ([.ref (ad 0)]) ++ List.replicate (1 - (lg_sl ([.ref (ad 0)])).length) Slot.unset).toArray = ls at hl ⊢
  have hl : lv_has ls 1 [(0, .ref (ad 0))] := hl
  refine lv_aload_n hx hb dX10_beginText_0 rfl (lv_at hl 0 rfl) ?_
  refine lv_aload_n hx hb dX10_beginText_1 rfl (lv_at hl 0 rfl) ?_
  refine m_gi (v := s 61) S hG 61 rfl (hts (.fieldLink RX10 195 "SwarmLineModel" "taped" "I") (by decide +kernel)) dX10_beginText_2 rfl ?_
  refine m_pi S hG hL 62 rfl (hts (.fieldLink RX10 241 "SwarmLineModel" "textEnd" "I") (by decide +kernel)) dX10_beginText_5 (fun H locs hG hL => ?_)
  refine lv_aload_n hx hb dX10_beginText_8 rfl (lv_at hl 0 rfl) ?_
  refine lv_iconst (v := 0) hx hb dX10_beginText_9 (by decide) ?_
  refine m_pi S hG hL 61 rfl (hts (.fieldLink RX10 195 "SwarmLineModel" "taped" "I") (by decide +kernel)) dX10_beginText_10 (fun H locs hG hL => ?_)
  refine lv_aload_n hx hb dX10_beginText_13 rfl (lv_at hl 0 rfl) ?_
  refine lv_iconst (v := 0) hx hb dX10_beginText_14 (by decide) ?_
  refine m_pi S hG hL 63 rfl (hts (.fieldLink RX10 238 "SwarmLineModel" "at" "I") (by decide +kernel)) dX10_beginText_15 (fun H locs hG hL => ?_)
  refine lv_aload_n hx hb dX10_beginText_18 rfl (lv_at hl 0 rfl) ?_
  refine lv_iconst (v := (-1)) hx hb dX10_beginText_19 (by decide) ?_
  refine m_pi S hG hL 64 rfl (hts (.fieldLink RX10 164 "SwarmLineModel" "fault" "I") (by decide +kernel)) dX10_beginText_20 (fun H locs hG hL => ?_)
  exact m_vret S hr hlocks hG hL dX10_beginText_23 (by rfl) (by rfl)
