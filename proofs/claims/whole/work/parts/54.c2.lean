/-! the lists: what their arrays hold; the JDK's own checks -/
theorem kEd_pos {ad : Nat → Nat} {eA q n : Nat} (h : 0 < n) : kEd ad eA q n = ad (gKey q n) := if_neg (by omega)
theorem gCap_b (n : Nat) : 10 ≤ gCap n ∧ gCap n ≤ 73 := by
  unfold gCap
  repeat' split
  all_goals omega
theorem gCap_ge {n : Nat} (h : n ≤ 73) : n ≤ gCap n := by
  unfold gCap
  repeat' split
  all_goals omega
section KLA
variable {ce0 : Nat → va_E} {ad : Nat → Nat} {eA : Nat} {cI cB cO cR : ClassId} {s : Nat → Int32} {r : Nat → Nat → Int32} {n : Nat}
theorem kJ_la0 : kJ ce0 ad eA cI cB cO cR s r (gKey 0 n) = .inl (cO, gCap n, .inr (.inr (.inr (.inr (kRf ad 1000 (s 6).toNatClampNeg))))) := by
  have h := gCap_b n
  unfold kJ gKey
  rw [if_neg (by omega), if_neg (by omega), if_neg (by omega), if_pos (by omega)]
  unfold kLa
  rw [if_pos (by omega)]
  rw [show 500 + 100 * 0 + gCap n - 500 = gCap n by omega]
theorem kJ_la1 : kJ ce0 ad eA cI cB cO cR s r (gKey 1 n) = .inl (cO, gCap n, .inr (.inr (.inr (.inr (kRf ad 2000 (s 14).toNatClampNeg))))) := by
  have h := gCap_b n
  unfold kJ gKey
  rw [if_neg (by omega), if_neg (by omega), if_neg (by omega), if_pos (by omega)]
  unfold kLa
  rw [if_neg (by omega), if_pos (by omega)]
  rw [show 500 + 100 * 1 + gCap n - 600 = gCap n by omega]
theorem kJ_la2 : kJ ce0 ad eA cI cB cO cR s r (gKey 2 n) = .inl (cO, gCap n, .inr (.inr (.inr (.inr (kRf ad 3000 (s 26).toNatClampNeg))))) := by
  have h := gCap_b n
  unfold kJ gKey
  rw [if_neg (by omega), if_neg (by omega), if_neg (by omega), if_pos (by omega)]
  unfold kLa
  rw [if_neg (by omega), if_neg (by omega), if_pos (by omega)]
  rw [show 500 + 100 * 2 + gCap n - 700 = gCap n by omega]
theorem kJ_la3 : kJ ce0 ad eA cI cB cO cR s r (gKey 3 n) = .inl (cO, gCap n, .inr (.inr (.inr (.inr (kRf ad 4000 (s 39).toNatClampNeg))))) := by
  have h := gCap_b n
  unfold kJ gKey
  rw [if_neg (by omega), if_neg (by omega), if_neg (by omega), if_pos (by omega)]
  unfold kLa
  rw [if_neg (by omega), if_neg (by omega), if_neg (by omega)]
  rw [show 500 + 100 * 3 + gCap n - 800 = gCap n by omega]
end KLA
section LLD
variable {p : Program} {l : Launch} {e : Env} {R : Room} {s : State} {m : MethodId} {args : Array Value} {below : List Frame} {meth : Method} {c : Code} {H : Heap} {locs : List Loc} {cells slots : Nat} {Q : State → Prop}
variable {cI cZ cB cO cR cJ : ClassId} {cc : ByteArray} {pc nL : Nat} {ls : Array Slot} {rest : List Value} {D : va_G} {Hb : Heap} {K : kTx} {lv : Nat → Prop} {ad : Nat → Nat} {ce : Nat → va_E} {Ts : List Cond} {own : String}
theorem k_lld (S : kX p m c cc nL s args Ts own D (tyL cI cZ cB cO cR cJ) Hb K) (hG : gW D Hb lv ad ce H) (k : Nat) (hk : lv k) {n j : Nat} {f : Nat → Option Nat} (ha : ce k = .inl (cO, n, .inr (.inr (.inr (.inr f))))) {i : Int32} {q : Nat} (hj : i.toNatClampNeg = j) (hin : vp_in i n) (hv : f j = some q) (hdg : decode cc pc = .ok (.aaload, 1))
    (kk : W p l e R s m args below meth c H locs cells slots Q (F0 m (pc + 1) ls (.ref q :: rest))) : W p l e R s m args below meth c H locs cells slots Q (F0 m pc ls (.int i :: .ref (ad k) :: rest)) := by
  subst hj
  refine g_aald S.1 S.2.1 hG k hk 3 ha rfl hin hdg ?_
  rw [hv]
  exact kk
end LLD
def xNm (n k : Int32) : Option String := if fIs n k = 0 then some "java/lang/IndexOutOfBoundsException" else none
def xTo (hi w : Int32) : Option String := if fIn w 0 hi = 0 then some "java/util/NoSuchElementException" else none
theorem fIn_out {w hi : Int32} (h : w.toInt < 0 ∨ hi.toInt < w.toInt) : fIn w 0 hi = 0 := by
  unfold fIn
  by_cases h1 : w < 0
  · simp [h1]
  · have h2 : hi < w := by
      rw [t_lt] at h1 ⊢
      have : (0 : Int32).toInt = 0 := rfl
      omega
    simp [h1, h2]
theorem ix_lt {x n : Int32} (h0 : 0 ≤ x.toInt) (h1 : x.toInt < n.toInt) : x.toNatClampNeg < n.toNatClampNeg := by
  have a := t_ix h0
  have b := t_ix (x := n) (by omega)
  omega
theorem ix_le {x : Int32} {n : Nat} (h0 : 0 ≤ x.toInt) (h1 : x.toInt < n) : x.toNatClampNeg < n := by
  have a := t_ix h0
  omega
theorem fIs_t {n k : Int32} (h0 : ¬ k < 0) (h1 : k < n) : ¬ fIs n k = 0 ∧ 0 ≤ k.toInt ∧ k.toInt < n.toInt := by
  have a := h0
  have b := h1
  rw [t_lt] at a b
  have z : (0 : Int32).toInt = 0 := rfl
  refine ⟨?_, by omega, by omega⟩
  unfold fIs
  have c : ¬ n ≤ k := by rw [t_le]; omega
  simp [h0, c]
theorem fIs_f {n k : Int32} (h1 : ¬ k < n) : fIs n k = 0 := by
  unfold fIs
  have c : n ≤ k := by rw [t_le]; rw [t_lt] at h1; omega
  simp [c]
theorem fIs_n {n k : Int32} (h1 : k < 0) : fIs n k = 0 := by
  unfold fIs
  simp [h1]

set_option maxHeartbeats 4000000 in
set_option maxRecDepth 100000 in
theorem c_J3_checkIndex_8e157 {l : Launch} (i : Int32) (n : Int32) (h0 : 0 ≤ i.toInt) (h1 : i.toInt < n.toInt) : pMet l yJ3_checkIndex_8e157 wsJ3_checkIndex_8e157 0 0 [.int i, .int n, .null] (some (.int (i))) := by
  refine Met.ofW (cc := cJ3_checkIndex_8e157) (maxL := 3) (ret := (some .int)) (by decide) rfl ?_
  intro p0 e0 s0 m0 args below meth c0 s₁ B hml hv
  obtain ⟨rfl, -⟩ := hv
  have hx := B.exec
  have hb := B.bytes
  have hr := B.returns
  have hts := atoms_spec (ws := wsJ3_checkIndex_8e157) B.pre
  have hown : s0.vm.findClass RJ3 = some m0.cls := findClass_of_methodNamed B.named
  have hlocks := B.notSynchronized
  have S : CallFix p0 m0 c0 cJ3_checkIndex_8e157 3 s0 _ wsJ3_checkIndex_8e157 RJ3 := ⟨hx, hb, hml, hown, hts⟩
  have hl := lv_entry ([.int i, .int n, .null]) (n := 3) (Nat.le_of_ble_eq_true rfl)
  rw [lg_entry_eq]
  generalize (lg_sl ([.int i, .int n, .null]) ++ List.replicate (3 - (lg_sl ([.int i, .int n, .null])).length) Slot.unset).toArray = ls at hl ⊢
  have hl : lv_has ls 3 [(0, .int i), (1, .int n), (2, .null)] := hl
  refine lv_iload_n hx hb dJ3_checkIndex_8e157_0 rfl (lv_at hl 0 rfl) ?_
  refine lv_if_lt (tgt := 9) hx hb dJ3_checkIndex_8e157_1 (by decide) (fun c1 => absurd c1 (by rw [t_lt]; have z : (0 : Int32).toInt = 0 := rfl; omega)) (fun c1 => ?_)
  refine lv_iload_n hx hb dJ3_checkIndex_8e157_4 rfl (lv_at hl 0 rfl) ?_
  refine lv_iload_n hx hb dJ3_checkIndex_8e157_5 rfl (lv_at hl 1 rfl) ?_
  refine lv_icmp_lt (tgt := 16) hx hb dJ3_checkIndex_8e157_6 (by decide) (fun c6 => ?_) (fun c6 => absurd c6 (by rw [t_lt]; exact fun z => z h1))
  refine lv_iload_n hx hb dJ3_checkIndex_8e157_16 rfl (lv_at hl 0 rfl) ?_
  exact p_iret S hr hlocks (congrArg (fun z => some (Value.int z)) (by rfl)) dJ3_checkIndex_8e157_17

set_option maxHeartbeats 4000000 in
set_option maxRecDepth 100000 in
theorem c_J15_checkIndex_7cf53 {l : Launch} (i : Int32) (n : Int32) (h0 : 0 ≤ i.toInt) (h1 : i.toInt < n.toInt) : pMet l yJ15_checkIndex_7cf53 wsJ15_checkIndex_7cf53 1 22 [.int i, .int n] (some (.int (i))) := by
  refine Met.ofW (cc := cJ15_checkIndex_7cf53) (maxL := 2) (ret := (some .int)) (by decide) rfl ?_
  intro p0 e0 s0 m0 args below meth c0 s₁ B hml hv
  obtain ⟨rfl, -⟩ := hv
  have hx := B.exec
  have hb := B.bytes
  have hr := B.returns
  have hts := atoms_spec (ws := wsJ15_checkIndex_7cf53) B.pre
  have hown : s0.vm.findClass RJ15 = some m0.cls := findClass_of_methodNamed B.named
  have hlocks := B.notSynchronized
  have S : CallFix p0 m0 c0 cJ15_checkIndex_7cf53 2 s0 _ wsJ15_checkIndex_7cf53 RJ15 := ⟨hx, hb, hml, hown, hts⟩
  have hl := lv_entry ([.int i, .int n]) (n := 2) (Nat.le_of_ble_eq_true rfl)
  rw [lg_entry_eq]
  generalize (lg_sl ([.int i, .int n]) ++ List.replicate (2 - (lg_sl ([.int i, .int n])).length) Slot.unset).toArray = ls at hl ⊢
  have hl : lv_has ls 2 [(0, .int i), (1, .int n)] := hl
  refine lv_iload_n hx hb dJ15_checkIndex_7cf53_0 rfl (lv_at hl 0 rfl) ?_
  refine lv_iload_n hx hb dJ15_checkIndex_7cf53_1 rfl (lv_at hl 1 rfl) ?_
  refine lv_null hx hb dJ15_checkIndex_7cf53_2 ?_
  refine m_callP (n := 3) (As := [.int i, .int n, .null]) (rest := []) (st1 := .int i :: []) S (c_J3_checkIndex_8e157 i n  (h0) (h1)) gJ15_checkIndex_7cf53_J3_checkIndex_8e157 rfl (by decide +kernel) ⟨Nat.le_of_ble_eq_true rfl, Nat.le_of_ble_eq_true rfl⟩ rfl hl.1 rfl (Nat.le_of_ble_eq_true rfl) dJ15_checkIndex_7cf53_3 ⟨Nat.zero_le _, Nat.zero_le _⟩ (rfl) ?_
  exact p_iret S hr hlocks (congrArg (fun z => some (Value.int z)) (by rfl)) dJ15_checkIndex_7cf53_6

set_option maxHeartbeats 4000000 in
set_option maxRecDepth 100000 in
theorem c_size0 {l : Launch} {D : va_G} {cI cZ cB cO cR cJ : ClassId} {Hb : Heap} {K : kTx} {lv : Nat → Prop} {ad : Nat → Nat} {ce0 : Nat → va_E} (s : Nat → Int32) (r : Nat → Nat → Int32) (hlv : kL lv s)   : kMet l D cI cZ cB cO cR cJ Hb K lv ad ce0 yJx4a65c_size_8abf5 wsJx4a65c_size_8abf5 0 0 [.ref (ad 105)] s r (some (.int (s 6))) s r := by
  refine Met.ofW (cc := cJx4a65c_size_8abf5) (maxL := 1) (ret := (some .int)) (by decide) rfl ?_
  intro p0 e0 s0 m0 args below meth c0 s₁ B hml hv
  obtain ⟨rfl, hG, hK, hE⟩ := hv
  have hx := B.exec
  have hb := B.bytes
  have hr := B.returns
  have hts := atoms_spec (ws := wsJx4a65c_size_8abf5) B.pre
  have hown : s0.vm.findClass RJx4a65c = some m0.cls := findClass_of_methodNamed B.named
  have hlocks := B.notSynchronized
  have S : kX p0 m0 c0 cJx4a65c_size_8abf5 1 s0 _ wsJx4a65c_size_8abf5 RJx4a65c D (tyL cI cZ cB cO cR cJ) Hb K := ⟨⟨hx, hb, hml, hown, hts⟩, hK, hE⟩
  have hL : gL Hb [] := gL.nil
  have hH := hG.2.2.2.2
  have hl := lv_entry ([.ref (ad 105)]) (n := 1) (Nat.le_of_ble_eq_true rfl)
  rw [lg_entry_eq]
  generalize (lg_sl ([.ref (ad 105)]) ++ List.replicate (1 - (lg_sl ([.ref (ad 105)])).length) Slot.unset).toArray = ls at hl ⊢
  have hl : lv_has ls 1 [(0, .ref (ad 105))] := hl
  refine lv_aload_n hx hb dJx4a65c_size_8abf5_0 rfl (lv_at hl 0 rfl) ?_
  refine k_gi (C := RJx4a65c) (T := TJx4a65c) (N := 3) (ci := 0) (v := s 6) S hG (fun w h => List.mem_cons_of_mem _ (List.mem_append_right _ h)) 105 (hlv.f (by decide) (by decide)) rfl rfl 2 (by decide) rfl (hts (.fieldLink RJx4a65c 48 "java/util/ArrayList" "size" "I") (by decide +kernel)) rfl (rfl) dJx4a65c_size_8abf5_1 ?_
  exact g_iret S.1 hr hlocks hG hL (congrArg (fun z => some (Value.int z)) (by rfl)) (congr (congrArg (kJ ce0 ad K.2.2.1 cI cB cO cR) (by rfl)) (by rfl)) dJx4a65c_size_8abf5_4

set_option maxHeartbeats 4000000 in
set_option maxRecDepth 100000 in
theorem c_eld0 {l : Launch} {D : va_G} {cI cZ cB cO cR cJ : ClassId} {Hb : Heap} {K : kTx} {lv : Nat → Prop} {ad : Nat → Nat} {ce0 : Nat → va_E} (s : Nat → Int32) (r : Nat → Nat → Int32) (hlv : kL lv s) (x : Int32) (h0 : 0 ≤ x.toInt) (h1 : x.toInt < (s 6).toInt) (h2 : (s 6).toInt ≤ 60) : kMet l D cI cZ cB cO cR cJ Hb K lv ad ce0 yJx4a65c_elementData_915e3 wsJx4a65c_elementData_915e3 0 0 [.ref (ad 105), .int x] s r (some (.ref (ad (1000 + Int32.toNatClampNeg x)))) s r := by
  refine Met.ofW (cc := cJx4a65c_elementData_915e3) (maxL := 2) (ret := (some (.object "java/lang/Object"))) (by decide) rfl ?_
  intro p0 e0 s0 m0 args below meth c0 s₁ B hml hv
  obtain ⟨rfl, hG, hK, hE⟩ := hv
  have hx := B.exec
  have hb := B.bytes
  have hr := B.returns
  have hts := atoms_spec (ws := wsJx4a65c_elementData_915e3) B.pre
  have hown : s0.vm.findClass RJx4a65c = some m0.cls := findClass_of_methodNamed B.named
  have hlocks := B.notSynchronized
  have S : kX p0 m0 c0 cJx4a65c_elementData_915e3 2 s0 _ wsJx4a65c_elementData_915e3 RJx4a65c D (tyL cI cZ cB cO cR cJ) Hb K := ⟨⟨hx, hb, hml, hown, hts⟩, hK, hE⟩
  have hL : gL Hb [] := gL.nil
  have hH := hG.2.2.2.2
  have hl := lv_entry ([.ref (ad 105), .int x]) (n := 2) (Nat.le_of_ble_eq_true rfl)
  rw [lg_entry_eq]
  generalize (lg_sl ([.ref (ad 105), .int x]) ++ List.replicate (2 - (lg_sl ([.ref (ad 105), .int x])).length) Slot.unset).toArray = ls at hl ⊢
  have hl : lv_has ls 2 [(0, .ref (ad 105)), (1, .int x)] := hl
  have hlt : x.toNatClampNeg < (s 6).toNatClampNeg := ix_lt h0 h1
  have hpos : 0 < (s 6).toNatClampNeg := by omega
  refine lv_aload_n hx hb dJx4a65c_elementData_915e3_0 rfl (lv_at hl 0 rfl) ?_
  refine k_ga (C := RJx4a65c) (T := TJx4a65c) (N := 3) (ci := 0) (v := .ref (ad (gKey 0 (s 6).toNatClampNeg))) S hG (fun w h => List.mem_cons_of_mem _ (List.mem_append_right _ h)) 105 (hlv.f (by decide) (by decide)) rfl rfl 1 (by decide) rfl (hts (.fieldLink RJx4a65c 9 "java/util/ArrayList" "elementData" "[Ljava/lang/Object;") (by decide +kernel)) (congrArg (fun z => some (Value.ref z)) (kEd_pos hpos)) dJx4a65c_elementData_915e3_1 ?_
  refine lv_iload_n hx hb dJx4a65c_elementData_915e3_4 rfl (lv_at hl 1 rfl) ?_
  refine k_lld (j := Int32.toNatClampNeg x) (q := ad (1000 + (Int32.toNatClampNeg x))) S hG (gKey 0 (s 6).toNatClampNeg) (hlv.l0 hpos) kJ_la0 rfl (vp_in_t h0 (by have z := t_ix (x := s 6) (by omega); have y := gCap_ge (n := (s 6).toNatClampNeg) (by omega); omega)) (if_pos (hlt)) dJx4a65c_elementData_915e3_5 ?_
  exact g_aret S.1 hr (Or.inl ⟨_, rfl⟩) hlocks hG hL (Or.inr ⟨_, rfl⟩) (by rfl) (congr (congrArg (kJ ce0 ad K.2.2.1 cI cB cO cR) (by rfl)) (by rfl)) dJx4a65c_elementData_915e3_6

set_option maxHeartbeats 4000000 in
set_option maxRecDepth 100000 in
theorem c_get0 {l : Launch} {D : va_G} {cI cZ cB cO cR cJ : ClassId} {Hb : Heap} {K : kTx} {lv : Nat → Prop} {ad : Nat → Nat} {ce0 : Nat → va_E} (s : Nat → Int32) (r : Nat → Nat → Int32) (hlv : kL lv s) (x : Int32) (h0 : 0 ≤ x.toInt) (h1 : x.toInt < (s 6).toInt) (h2 : (s 6).toInt ≤ 60) : kMet l D cI cZ cB cO cR cJ Hb K lv ad ce0 yJx4a65c_get_915e3 wsJx4a65c_get_915e3 2 43 [.ref (ad 105), .int x] s r (some (.ref (ad (1000 + Int32.toNatClampNeg x)))) s r := by
  refine Met.ofW (cc := cJx4a65c_get_915e3) (maxL := 2) (ret := (some (.object "java/lang/Object"))) (by decide) rfl ?_
  intro p0 e0 s0 m0 args below meth c0 s₁ B hml hv
  obtain ⟨rfl, hG, hK, hE⟩ := hv
  have hx := B.exec
  have hb := B.bytes
  have hr := B.returns
  have hts := atoms_spec (ws := wsJx4a65c_get_915e3) B.pre
  have hown : s0.vm.findClass RJx4a65c = some m0.cls := findClass_of_methodNamed B.named
  have hlocks := B.notSynchronized
  have S : kX p0 m0 c0 cJx4a65c_get_915e3 2 s0 _ wsJx4a65c_get_915e3 RJx4a65c D (tyL cI cZ cB cO cR cJ) Hb K := ⟨⟨hx, hb, hml, hown, hts⟩, hK, hE⟩
  have hL : gL Hb [] := gL.nil
  have hH := hG.2.2.2.2
  have hl := lv_entry ([.ref (ad 105), .int x]) (n := 2) (Nat.le_of_ble_eq_true rfl)
  rw [lg_entry_eq]
  generalize (lg_sl ([.ref (ad 105), .int x]) ++ List.replicate (2 - (lg_sl ([.ref (ad 105), .int x])).length) Slot.unset).toArray = ls at hl ⊢
  have hl : lv_has ls 2 [(0, .ref (ad 105)), (1, .int x)] := hl
  refine lv_iload_n hx hb dJx4a65c_get_915e3_0 rfl (lv_at hl 1 rfl) ?_
  refine lv_aload_n hx hb dJx4a65c_get_915e3_1 rfl (lv_at hl 0 rfl) ?_
  refine k_gi (C := RJx4a65c) (T := TJx4a65c) (N := 3) (ci := 0) (v := s 6) S hG (fun w h => List.mem_cons_of_mem _ (List.mem_append_right _ h)) 105 (hlv.f (by decide) (by decide)) rfl rfl 2 (by decide) rfl (hts (.fieldLink RJx4a65c 48 "java/util/ArrayList" "size" "I") (by decide +kernel)) rfl (rfl) dJx4a65c_get_915e3_2 ?_
  refine m_callP (n := 2) (As := [.int x, .int (s 6)]) (rest := []) (st1 := .int x :: []) S.1 (c_J15_checkIndex_7cf53 x (s 6) (h0) (h1)) gJx4a65c_get_915e3_J15_checkIndex_7cf53 rfl (by decide +kernel) ⟨Nat.le_of_ble_eq_true rfl, Nat.le_of_ble_eq_true rfl⟩ rfl hl.1 rfl (Nat.le_of_ble_eq_true rfl) dJx4a65c_get_915e3_5 ⟨Nat.zero_le _, Nat.zero_le _⟩ (rfl) ?_
  refine lv_pop hx hb dJx4a65c_get_915e3_8 rfl ?_
  refine lv_aload_n hx hb dJx4a65c_get_915e3_9 rfl (lv_at hl 0 rfl) ?_
  refine lv_iload_n hx hb dJx4a65c_get_915e3_10 rfl (lv_at hl 1 rfl) ?_
  refine k_callV (n := 1) (As := [.int x]) (rest := []) (st1 := .ref (ad (1000 + Int32.toNatClampNeg x)) :: []) (k := 105) (ci := 0) S hG hL (hlv.f (by decide) (by decide)) rfl rfl (c_eld0 s r hlv  x (h0) (h1) (h2)) gJx4a65c_get_915e3_Jx4a65c_elementData_915e3 rfl ⟨rfl, rfl⟩ (by decide +kernel) ⟨Nat.le_of_ble_eq_true rfl, Nat.le_of_ble_eq_true rfl⟩ rfl hl.1 rfl (Nat.le_of_ble_eq_true rfl) dJx4a65c_get_915e3_11 ⟨Nat.zero_le _, Nat.zero_le _⟩ (rfl) (fun H locs hG hL => ?_)
  exact g_aret S.1 hr (Or.inl ⟨_, rfl⟩) hlocks hG hL (Or.inr ⟨_, rfl⟩) (by rfl) (congr (congrArg (kJ ce0 ad K.2.2.1 cI cB cO cR) (by rfl)) (by rfl)) dJx4a65c_get_915e3_14

set_option maxHeartbeats 4000000 in
set_option maxRecDepth 100000 in
theorem c_size1 {l : Launch} {D : va_G} {cI cZ cB cO cR cJ : ClassId} {Hb : Heap} {K : kTx} {lv : Nat → Prop} {ad : Nat → Nat} {ce0 : Nat → va_E} (s : Nat → Int32) (r : Nat → Nat → Int32) (hlv : kL lv s)   : kMet l D cI cZ cB cO cR cJ Hb K lv ad ce0 yJx4a65c_size_8abf5 wsJx4a65c_size_8abf5 0 0 [.ref (ad 106)] s r (some (.int (s 14))) s r := by
  refine Met.ofW (cc := cJx4a65c_size_8abf5) (maxL := 1) (ret := (some .int)) (by decide) rfl ?_
  intro p0 e0 s0 m0 args below meth c0 s₁ B hml hv
  obtain ⟨rfl, hG, hK, hE⟩ := hv
  have hx := B.exec
  have hb := B.bytes
  have hr := B.returns
  have hts := atoms_spec (ws := wsJx4a65c_size_8abf5) B.pre
  have hown : s0.vm.findClass RJx4a65c = some m0.cls := findClass_of_methodNamed B.named
  have hlocks := B.notSynchronized
  have S : kX p0 m0 c0 cJx4a65c_size_8abf5 1 s0 _ wsJx4a65c_size_8abf5 RJx4a65c D (tyL cI cZ cB cO cR cJ) Hb K := ⟨⟨hx, hb, hml, hown, hts⟩, hK, hE⟩
  have hL : gL Hb [] := gL.nil
  have hH := hG.2.2.2.2
  have hl := lv_entry ([.ref (ad 106)]) (n := 1) (Nat.le_of_ble_eq_true rfl)
  rw [lg_entry_eq]
  generalize (lg_sl ([.ref (ad 106)]) ++ List.replicate (1 - (lg_sl ([.ref (ad 106)])).length) Slot.unset).toArray = ls at hl ⊢
  have hl : lv_has ls 1 [(0, .ref (ad 106))] := hl
  refine lv_aload_n hx hb dJx4a65c_size_8abf5_0 rfl (lv_at hl 0 rfl) ?_
  refine k_gi (C := RJx4a65c) (T := TJx4a65c) (N := 3) (ci := 0) (v := s 14) S hG (fun w h => List.mem_cons_of_mem _ (List.mem_append_right _ h)) 106 (hlv.f (by decide) (by decide)) rfl rfl 2 (by decide) rfl (hts (.fieldLink RJx4a65c 48 "java/util/ArrayList" "size" "I") (by decide +kernel)) rfl (rfl) dJx4a65c_size_8abf5_1 ?_
  exact g_iret S.1 hr hlocks hG hL (congrArg (fun z => some (Value.int z)) (by rfl)) (congr (congrArg (kJ ce0 ad K.2.2.1 cI cB cO cR) (by rfl)) (by rfl)) dJx4a65c_size_8abf5_4

set_option maxHeartbeats 4000000 in
set_option maxRecDepth 100000 in
theorem c_eld1 {l : Launch} {D : va_G} {cI cZ cB cO cR cJ : ClassId} {Hb : Heap} {K : kTx} {lv : Nat → Prop} {ad : Nat → Nat} {ce0 : Nat → va_E} (s : Nat → Int32) (r : Nat → Nat → Int32) (hlv : kL lv s) (x : Int32) (h0 : 0 ≤ x.toInt) (h1 : x.toInt < (s 14).toInt) (h2 : (s 14).toInt ≤ 60) : kMet l D cI cZ cB cO cR cJ Hb K lv ad ce0 yJx4a65c_elementData_915e3 wsJx4a65c_elementData_915e3 0 0 [.ref (ad 106), .int x] s r (some (.ref (ad (2000 + Int32.toNatClampNeg x)))) s r := by
  refine Met.ofW (cc := cJx4a65c_elementData_915e3) (maxL := 2) (ret := (some (.object "java/lang/Object"))) (by decide) rfl ?_
  intro p0 e0 s0 m0 args below meth c0 s₁ B hml hv
  obtain ⟨rfl, hG, hK, hE⟩ := hv
  have hx := B.exec
  have hb := B.bytes
  have hr := B.returns
  have hts := atoms_spec (ws := wsJx4a65c_elementData_915e3) B.pre
  have hown : s0.vm.findClass RJx4a65c = some m0.cls := findClass_of_methodNamed B.named
  have hlocks := B.notSynchronized
  have S : kX p0 m0 c0 cJx4a65c_elementData_915e3 2 s0 _ wsJx4a65c_elementData_915e3 RJx4a65c D (tyL cI cZ cB cO cR cJ) Hb K := ⟨⟨hx, hb, hml, hown, hts⟩, hK, hE⟩
  have hL : gL Hb [] := gL.nil
  have hH := hG.2.2.2.2
  have hl := lv_entry ([.ref (ad 106), .int x]) (n := 2) (Nat.le_of_ble_eq_true rfl)
  rw [lg_entry_eq]
  generalize (lg_sl ([.ref (ad 106), .int x]) ++ List.replicate (2 - (lg_sl ([.ref (ad 106), .int x])).length) Slot.unset).toArray = ls at hl ⊢
  have hl : lv_has ls 2 [(0, .ref (ad 106)), (1, .int x)] := hl
  have hlt : x.toNatClampNeg < (s 14).toNatClampNeg := ix_lt h0 h1
  have hpos : 0 < (s 14).toNatClampNeg := by omega
  refine lv_aload_n hx hb dJx4a65c_elementData_915e3_0 rfl (lv_at hl 0 rfl) ?_
  refine k_ga (C := RJx4a65c) (T := TJx4a65c) (N := 3) (ci := 0) (v := .ref (ad (gKey 1 (s 14).toNatClampNeg))) S hG (fun w h => List.mem_cons_of_mem _ (List.mem_append_right _ h)) 106 (hlv.f (by decide) (by decide)) rfl rfl 1 (by decide) rfl (hts (.fieldLink RJx4a65c 9 "java/util/ArrayList" "elementData" "[Ljava/lang/Object;") (by decide +kernel)) (congrArg (fun z => some (Value.ref z)) (kEd_pos hpos)) dJx4a65c_elementData_915e3_1 ?_
  refine lv_iload_n hx hb dJx4a65c_elementData_915e3_4 rfl (lv_at hl 1 rfl) ?_
  refine k_lld (j := Int32.toNatClampNeg x) (q := ad (2000 + (Int32.toNatClampNeg x))) S hG (gKey 1 (s 14).toNatClampNeg) (hlv.l1 hpos) kJ_la1 rfl (vp_in_t h0 (by have z := t_ix (x := s 14) (by omega); have y := gCap_ge (n := (s 14).toNatClampNeg) (by omega); omega)) (if_pos (hlt)) dJx4a65c_elementData_915e3_5 ?_
  exact g_aret S.1 hr (Or.inl ⟨_, rfl⟩) hlocks hG hL (Or.inr ⟨_, rfl⟩) (by rfl) (congr (congrArg (kJ ce0 ad K.2.2.1 cI cB cO cR) (by rfl)) (by rfl)) dJx4a65c_elementData_915e3_6

set_option maxHeartbeats 4000000 in
set_option maxRecDepth 100000 in
theorem c_get1 {l : Launch} {D : va_G} {cI cZ cB cO cR cJ : ClassId} {Hb : Heap} {K : kTx} {lv : Nat → Prop} {ad : Nat → Nat} {ce0 : Nat → va_E} (s : Nat → Int32) (r : Nat → Nat → Int32) (hlv : kL lv s) (x : Int32) (h0 : 0 ≤ x.toInt) (h1 : x.toInt < (s 14).toInt) (h2 : (s 14).toInt ≤ 60) : kMet l D cI cZ cB cO cR cJ Hb K lv ad ce0 yJx4a65c_get_915e3 wsJx4a65c_get_915e3 2 43 [.ref (ad 106), .int x] s r (some (.ref (ad (2000 + Int32.toNatClampNeg x)))) s r := by
  refine Met.ofW (cc := cJx4a65c_get_915e3) (maxL := 2) (ret := (some (.object "java/lang/Object"))) (by decide) rfl ?_
  intro p0 e0 s0 m0 args below meth c0 s₁ B hml hv
  obtain ⟨rfl, hG, hK, hE⟩ := hv
  have hx := B.exec
  have hb := B.bytes
  have hr := B.returns
  have hts := atoms_spec (ws := wsJx4a65c_get_915e3) B.pre
  have hown : s0.vm.findClass RJx4a65c = some m0.cls := findClass_of_methodNamed B.named
  have hlocks := B.notSynchronized
  have S : kX p0 m0 c0 cJx4a65c_get_915e3 2 s0 _ wsJx4a65c_get_915e3 RJx4a65c D (tyL cI cZ cB cO cR cJ) Hb K := ⟨⟨hx, hb, hml, hown, hts⟩, hK, hE⟩
  have hL : gL Hb [] := gL.nil
  have hH := hG.2.2.2.2
  have hl := lv_entry ([.ref (ad 106), .int x]) (n := 2) (Nat.le_of_ble_eq_true rfl)
  rw [lg_entry_eq]
  generalize (lg_sl ([.ref (ad 106), .int x]) ++ List.replicate (2 - (lg_sl ([.ref (ad 106), .int x])).length) Slot.unset).toArray = ls at hl ⊢
  have hl : lv_has ls 2 [(0, .ref (ad 106)), (1, .int x)] := hl
  refine lv_iload_n hx hb dJx4a65c_get_915e3_0 rfl (lv_at hl 1 rfl) ?_
  refine lv_aload_n hx hb dJx4a65c_get_915e3_1 rfl (lv_at hl 0 rfl) ?_
  refine k_gi (C := RJx4a65c) (T := TJx4a65c) (N := 3) (ci := 0) (v := s 14) S hG (fun w h => List.mem_cons_of_mem _ (List.mem_append_right _ h)) 106 (hlv.f (by decide) (by decide)) rfl rfl 2 (by decide) rfl (hts (.fieldLink RJx4a65c 48 "java/util/ArrayList" "size" "I") (by decide +kernel)) rfl (rfl) dJx4a65c_get_915e3_2 ?_
  refine m_callP (n := 2) (As := [.int x, .int (s 14)]) (rest := []) (st1 := .int x :: []) S.1 (c_J15_checkIndex_7cf53 x (s 14) (h0) (h1)) gJx4a65c_get_915e3_J15_checkIndex_7cf53 rfl (by decide +kernel) ⟨Nat.le_of_ble_eq_true rfl, Nat.le_of_ble_eq_true rfl⟩ rfl hl.1 rfl (Nat.le_of_ble_eq_true rfl) dJx4a65c_get_915e3_5 ⟨Nat.zero_le _, Nat.zero_le _⟩ (rfl) ?_
  refine lv_pop hx hb dJx4a65c_get_915e3_8 rfl ?_
  refine lv_aload_n hx hb dJx4a65c_get_915e3_9 rfl (lv_at hl 0 rfl) ?_
  refine lv_iload_n hx hb dJx4a65c_get_915e3_10 rfl (lv_at hl 1 rfl) ?_
  refine k_callV (n := 1) (As := [.int x]) (rest := []) (st1 := .ref (ad (2000 + Int32.toNatClampNeg x)) :: []) (k := 106) (ci := 0) S hG hL (hlv.f (by decide) (by decide)) rfl rfl (c_eld1 s r hlv  x (h0) (h1) (h2)) gJx4a65c_get_915e3_Jx4a65c_elementData_915e3 rfl ⟨rfl, rfl⟩ (by decide +kernel) ⟨Nat.le_of_ble_eq_true rfl, Nat.le_of_ble_eq_true rfl⟩ rfl hl.1 rfl (Nat.le_of_ble_eq_true rfl) dJx4a65c_get_915e3_11 ⟨Nat.zero_le _, Nat.zero_le _⟩ (rfl) (fun H locs hG hL => ?_)
  exact g_aret S.1 hr (Or.inl ⟨_, rfl⟩) hlocks hG hL (Or.inr ⟨_, rfl⟩) (by rfl) (congr (congrArg (kJ ce0 ad K.2.2.1 cI cB cO cR) (by rfl)) (by rfl)) dJx4a65c_get_915e3_14

set_option maxHeartbeats 4000000 in
set_option maxRecDepth 100000 in
theorem c_size2 {l : Launch} {D : va_G} {cI cZ cB cO cR cJ : ClassId} {Hb : Heap} {K : kTx} {lv : Nat → Prop} {ad : Nat → Nat} {ce0 : Nat → va_E} (s : Nat → Int32) (r : Nat → Nat → Int32) (hlv : kL lv s)   : kMet l D cI cZ cB cO cR cJ Hb K lv ad ce0 yJx4a65c_size_8abf5 wsJx4a65c_size_8abf5 0 0 [.ref (ad 107)] s r (some (.int (s 26))) s r := by
  refine Met.ofW (cc := cJx4a65c_size_8abf5) (maxL := 1) (ret := (some .int)) (by decide) rfl ?_
  intro p0 e0 s0 m0 args below meth c0 s₁ B hml hv
  obtain ⟨rfl, hG, hK, hE⟩ := hv
  have hx := B.exec
  have hb := B.bytes
  have hr := B.returns
  have hts := atoms_spec (ws := wsJx4a65c_size_8abf5) B.pre
  have hown : s0.vm.findClass RJx4a65c = some m0.cls := findClass_of_methodNamed B.named
  have hlocks := B.notSynchronized
  have S : kX p0 m0 c0 cJx4a65c_size_8abf5 1 s0 _ wsJx4a65c_size_8abf5 RJx4a65c D (tyL cI cZ cB cO cR cJ) Hb K := ⟨⟨hx, hb, hml, hown, hts⟩, hK, hE⟩
  have hL : gL Hb [] := gL.nil
  have hH := hG.2.2.2.2
  have hl := lv_entry ([.ref (ad 107)]) (n := 1) (Nat.le_of_ble_eq_true rfl)
  rw [lg_entry_eq]
  generalize (lg_sl ([.ref (ad 107)]) ++ List.replicate (1 - (lg_sl ([.ref (ad 107)])).length) Slot.unset).toArray = ls at hl ⊢
  have hl : lv_has ls 1 [(0, .ref (ad 107))] := hl
  refine lv_aload_n hx hb dJx4a65c_size_8abf5_0 rfl (lv_at hl 0 rfl) ?_
  refine k_gi (C := RJx4a65c) (T := TJx4a65c) (N := 3) (ci := 0) (v := s 26) S hG (fun w h => List.mem_cons_of_mem _ (List.mem_append_right _ h)) 107 (hlv.f (by decide) (by decide)) rfl rfl 2 (by decide) rfl (hts (.fieldLink RJx4a65c 48 "java/util/ArrayList" "size" "I") (by decide +kernel)) rfl (rfl) dJx4a65c_size_8abf5_1 ?_
  exact g_iret S.1 hr hlocks hG hL (congrArg (fun z => some (Value.int z)) (by rfl)) (congr (congrArg (kJ ce0 ad K.2.2.1 cI cB cO cR) (by rfl)) (by rfl)) dJx4a65c_size_8abf5_4

set_option maxHeartbeats 4000000 in
set_option maxRecDepth 100000 in
theorem c_eld2 {l : Launch} {D : va_G} {cI cZ cB cO cR cJ : ClassId} {Hb : Heap} {K : kTx} {lv : Nat → Prop} {ad : Nat → Nat} {ce0 : Nat → va_E} (s : Nat → Int32) (r : Nat → Nat → Int32) (hlv : kL lv s) (x : Int32) (h0 : 0 ≤ x.toInt) (h1 : x.toInt < (s 26).toInt) (h2 : (s 26).toInt ≤ 60) : kMet l D cI cZ cB cO cR cJ Hb K lv ad ce0 yJx4a65c_elementData_915e3 wsJx4a65c_elementData_915e3 0 0 [.ref (ad 107), .int x] s r (some (.ref (ad (3000 + Int32.toNatClampNeg x)))) s r := by
  refine Met.ofW (cc := cJx4a65c_elementData_915e3) (maxL := 2) (ret := (some (.object "java/lang/Object"))) (by decide) rfl ?_
  intro p0 e0 s0 m0 args below meth c0 s₁ B hml hv
  obtain ⟨rfl, hG, hK, hE⟩ := hv
  have hx := B.exec
  have hb := B.bytes
  have hr := B.returns
  have hts := atoms_spec (ws := wsJx4a65c_elementData_915e3) B.pre
  have hown : s0.vm.findClass RJx4a65c = some m0.cls := findClass_of_methodNamed B.named
  have hlocks := B.notSynchronized
  have S : kX p0 m0 c0 cJx4a65c_elementData_915e3 2 s0 _ wsJx4a65c_elementData_915e3 RJx4a65c D (tyL cI cZ cB cO cR cJ) Hb K := ⟨⟨hx, hb, hml, hown, hts⟩, hK, hE⟩
  have hL : gL Hb [] := gL.nil
  have hH := hG.2.2.2.2
  have hl := lv_entry ([.ref (ad 107), .int x]) (n := 2) (Nat.le_of_ble_eq_true rfl)
  rw [lg_entry_eq]
  generalize (lg_sl ([.ref (ad 107), .int x]) ++ List.replicate (2 - (lg_sl ([.ref (ad 107), .int x])).length) Slot.unset).toArray = ls at hl ⊢
  have hl : lv_has ls 2 [(0, .ref (ad 107)), (1, .int x)] := hl
  have hlt : x.toNatClampNeg < (s 26).toNatClampNeg := ix_lt h0 h1
  have hpos : 0 < (s 26).toNatClampNeg := by omega
  refine lv_aload_n hx hb dJx4a65c_elementData_915e3_0 rfl (lv_at hl 0 rfl) ?_
  refine k_ga (C := RJx4a65c) (T := TJx4a65c) (N := 3) (ci := 0) (v := .ref (ad (gKey 2 (s 26).toNatClampNeg))) S hG (fun w h => List.mem_cons_of_mem _ (List.mem_append_right _ h)) 107 (hlv.f (by decide) (by decide)) rfl rfl 1 (by decide) rfl (hts (.fieldLink RJx4a65c 9 "java/util/ArrayList" "elementData" "[Ljava/lang/Object;") (by decide +kernel)) (congrArg (fun z => some (Value.ref z)) (kEd_pos hpos)) dJx4a65c_elementData_915e3_1 ?_
  refine lv_iload_n hx hb dJx4a65c_elementData_915e3_4 rfl (lv_at hl 1 rfl) ?_
  refine k_lld (j := Int32.toNatClampNeg x) (q := ad (3000 + (Int32.toNatClampNeg x))) S hG (gKey 2 (s 26).toNatClampNeg) (hlv.l2 hpos) kJ_la2 rfl (vp_in_t h0 (by have z := t_ix (x := s 26) (by omega); have y := gCap_ge (n := (s 26).toNatClampNeg) (by omega); omega)) (if_pos (hlt)) dJx4a65c_elementData_915e3_5 ?_
  exact g_aret S.1 hr (Or.inl ⟨_, rfl⟩) hlocks hG hL (Or.inr ⟨_, rfl⟩) (by rfl) (congr (congrArg (kJ ce0 ad K.2.2.1 cI cB cO cR) (by rfl)) (by rfl)) dJx4a65c_elementData_915e3_6

set_option maxHeartbeats 4000000 in
set_option maxRecDepth 100000 in
theorem c_get2 {l : Launch} {D : va_G} {cI cZ cB cO cR cJ : ClassId} {Hb : Heap} {K : kTx} {lv : Nat → Prop} {ad : Nat → Nat} {ce0 : Nat → va_E} (s : Nat → Int32) (r : Nat → Nat → Int32) (hlv : kL lv s) (x : Int32) (h0 : 0 ≤ x.toInt) (h1 : x.toInt < (s 26).toInt) (h2 : (s 26).toInt ≤ 60) : kMet l D cI cZ cB cO cR cJ Hb K lv ad ce0 yJx4a65c_get_915e3 wsJx4a65c_get_915e3 2 43 [.ref (ad 107), .int x] s r (some (.ref (ad (3000 + Int32.toNatClampNeg x)))) s r := by
  refine Met.ofW (cc := cJx4a65c_get_915e3) (maxL := 2) (ret := (some (.object "java/lang/Object"))) (by decide) rfl ?_
  intro p0 e0 s0 m0 args below meth c0 s₁ B hml hv
  obtain ⟨rfl, hG, hK, hE⟩ := hv
  have hx := B.exec
  have hb := B.bytes
  have hr := B.returns
  have hts := atoms_spec (ws := wsJx4a65c_get_915e3) B.pre
  have hown : s0.vm.findClass RJx4a65c = some m0.cls := findClass_of_methodNamed B.named
  have hlocks := B.notSynchronized
  have S : kX p0 m0 c0 cJx4a65c_get_915e3 2 s0 _ wsJx4a65c_get_915e3 RJx4a65c D (tyL cI cZ cB cO cR cJ) Hb K := ⟨⟨hx, hb, hml, hown, hts⟩, hK, hE⟩
  have hL : gL Hb [] := gL.nil
  have hH := hG.2.2.2.2
  have hl := lv_entry ([.ref (ad 107), .int x]) (n := 2) (Nat.le_of_ble_eq_true rfl)
  rw [lg_entry_eq]
  generalize (lg_sl ([.ref (ad 107), .int x]) ++ List.replicate (2 - (lg_sl ([.ref (ad 107), .int x])).length) Slot.unset).toArray = ls at hl ⊢
  have hl : lv_has ls 2 [(0, .ref (ad 107)), (1, .int x)] := hl
  refine lv_iload_n hx hb dJx4a65c_get_915e3_0 rfl (lv_at hl 1 rfl) ?_
  refine lv_aload_n hx hb dJx4a65c_get_915e3_1 rfl (lv_at hl 0 rfl) ?_
  refine k_gi (C := RJx4a65c) (T := TJx4a65c) (N := 3) (ci := 0) (v := s 26) S hG (fun w h => List.mem_cons_of_mem _ (List.mem_append_right _ h)) 107 (hlv.f (by decide) (by decide)) rfl rfl 2 (by decide) rfl (hts (.fieldLink RJx4a65c 48 "java/util/ArrayList" "size" "I") (by decide +kernel)) rfl (rfl) dJx4a65c_get_915e3_2 ?_
  refine m_callP (n := 2) (As := [.int x, .int (s 26)]) (rest := []) (st1 := .int x :: []) S.1 (c_J15_checkIndex_7cf53 x (s 26) (h0) (h1)) gJx4a65c_get_915e3_J15_checkIndex_7cf53 rfl (by decide +kernel) ⟨Nat.le_of_ble_eq_true rfl, Nat.le_of_ble_eq_true rfl⟩ rfl hl.1 rfl (Nat.le_of_ble_eq_true rfl) dJx4a65c_get_915e3_5 ⟨Nat.zero_le _, Nat.zero_le _⟩ (rfl) ?_
  refine lv_pop hx hb dJx4a65c_get_915e3_8 rfl ?_
  refine lv_aload_n hx hb dJx4a65c_get_915e3_9 rfl (lv_at hl 0 rfl) ?_
  refine lv_iload_n hx hb dJx4a65c_get_915e3_10 rfl (lv_at hl 1 rfl) ?_
  refine k_callV (n := 1) (As := [.int x]) (rest := []) (st1 := .ref (ad (3000 + Int32.toNatClampNeg x)) :: []) (k := 107) (ci := 0) S hG hL (hlv.f (by decide) (by decide)) rfl rfl (c_eld2 s r hlv  x (h0) (h1) (h2)) gJx4a65c_get_915e3_Jx4a65c_elementData_915e3 rfl ⟨rfl, rfl⟩ (by decide +kernel) ⟨Nat.le_of_ble_eq_true rfl, Nat.le_of_ble_eq_true rfl⟩ rfl hl.1 rfl (Nat.le_of_ble_eq_true rfl) dJx4a65c_get_915e3_11 ⟨Nat.zero_le _, Nat.zero_le _⟩ (rfl) (fun H locs hG hL => ?_)
  exact g_aret S.1 hr (Or.inl ⟨_, rfl⟩) hlocks hG hL (Or.inr ⟨_, rfl⟩) (by rfl) (congr (congrArg (kJ ce0 ad K.2.2.1 cI cB cO cR) (by rfl)) (by rfl)) dJx4a65c_get_915e3_14

set_option maxHeartbeats 4000000 in
set_option maxRecDepth 100000 in
theorem c_size3 {l : Launch} {D : va_G} {cI cZ cB cO cR cJ : ClassId} {Hb : Heap} {K : kTx} {lv : Nat → Prop} {ad : Nat → Nat} {ce0 : Nat → va_E} (s : Nat → Int32) (r : Nat → Nat → Int32) (hlv : kL lv s)   : kMet l D cI cZ cB cO cR cJ Hb K lv ad ce0 yJx4a65c_size_8abf5 wsJx4a65c_size_8abf5 0 0 [.ref (ad 108)] s r (some (.int (s 39))) s r := by
  refine Met.ofW (cc := cJx4a65c_size_8abf5) (maxL := 1) (ret := (some .int)) (by decide) rfl ?_
  intro p0 e0 s0 m0 args below meth c0 s₁ B hml hv
  obtain ⟨rfl, hG, hK, hE⟩ := hv
  have hx := B.exec
  have hb := B.bytes
  have hr := B.returns
  have hts := atoms_spec (ws := wsJx4a65c_size_8abf5) B.pre
  have hown : s0.vm.findClass RJx4a65c = some m0.cls := findClass_of_methodNamed B.named
  have hlocks := B.notSynchronized
  have S : kX p0 m0 c0 cJx4a65c_size_8abf5 1 s0 _ wsJx4a65c_size_8abf5 RJx4a65c D (tyL cI cZ cB cO cR cJ) Hb K := ⟨⟨hx, hb, hml, hown, hts⟩, hK, hE⟩
  have hL : gL Hb [] := gL.nil
  have hH := hG.2.2.2.2
  have hl := lv_entry ([.ref (ad 108)]) (n := 1) (Nat.le_of_ble_eq_true rfl)
  rw [lg_entry_eq]
  generalize (lg_sl ([.ref (ad 108)]) ++ List.replicate (1 - (lg_sl ([.ref (ad 108)])).length) Slot.unset).toArray = ls at hl ⊢
  have hl : lv_has ls 1 [(0, .ref (ad 108))] := hl
  refine lv_aload_n hx hb dJx4a65c_size_8abf5_0 rfl (lv_at hl 0 rfl) ?_
  refine k_gi (C := RJx4a65c) (T := TJx4a65c) (N := 3) (ci := 0) (v := s 39) S hG (fun w h => List.mem_cons_of_mem _ (List.mem_append_right _ h)) 108 (hlv.f (by decide) (by decide)) rfl rfl 2 (by decide) rfl (hts (.fieldLink RJx4a65c 48 "java/util/ArrayList" "size" "I") (by decide +kernel)) rfl (rfl) dJx4a65c_size_8abf5_1 ?_
  exact g_iret S.1 hr hlocks hG hL (congrArg (fun z => some (Value.int z)) (by rfl)) (congr (congrArg (kJ ce0 ad K.2.2.1 cI cB cO cR) (by rfl)) (by rfl)) dJx4a65c_size_8abf5_4

set_option maxHeartbeats 4000000 in
set_option maxRecDepth 100000 in
theorem c_eld3 {l : Launch} {D : va_G} {cI cZ cB cO cR cJ : ClassId} {Hb : Heap} {K : kTx} {lv : Nat → Prop} {ad : Nat → Nat} {ce0 : Nat → va_E} (s : Nat → Int32) (r : Nat → Nat → Int32) (hlv : kL lv s) (x : Int32) (h0 : 0 ≤ x.toInt) (h1 : x.toInt < (s 39).toInt) (h2 : (s 39).toInt ≤ 60) : kMet l D cI cZ cB cO cR cJ Hb K lv ad ce0 yJx4a65c_elementData_915e3 wsJx4a65c_elementData_915e3 0 0 [.ref (ad 108), .int x] s r (some (.ref (ad (4000 + Int32.toNatClampNeg x)))) s r := by
  refine Met.ofW (cc := cJx4a65c_elementData_915e3) (maxL := 2) (ret := (some (.object "java/lang/Object"))) (by decide) rfl ?_
  intro p0 e0 s0 m0 args below meth c0 s₁ B hml hv
  obtain ⟨rfl, hG, hK, hE⟩ := hv
  have hx := B.exec
  have hb := B.bytes
  have hr := B.returns
  have hts := atoms_spec (ws := wsJx4a65c_elementData_915e3) B.pre
  have hown : s0.vm.findClass RJx4a65c = some m0.cls := findClass_of_methodNamed B.named
  have hlocks := B.notSynchronized
  have S : kX p0 m0 c0 cJx4a65c_elementData_915e3 2 s0 _ wsJx4a65c_elementData_915e3 RJx4a65c D (tyL cI cZ cB cO cR cJ) Hb K := ⟨⟨hx, hb, hml, hown, hts⟩, hK, hE⟩
  have hL : gL Hb [] := gL.nil
  have hH := hG.2.2.2.2
  have hl := lv_entry ([.ref (ad 108), .int x]) (n := 2) (Nat.le_of_ble_eq_true rfl)
  rw [lg_entry_eq]
  generalize (lg_sl ([.ref (ad 108), .int x]) ++ List.replicate (2 - (lg_sl ([.ref (ad 108), .int x])).length) Slot.unset).toArray = ls at hl ⊢
  have hl : lv_has ls 2 [(0, .ref (ad 108)), (1, .int x)] := hl
  have hlt : x.toNatClampNeg < (s 39).toNatClampNeg := ix_lt h0 h1
  have hpos : 0 < (s 39).toNatClampNeg := by omega
  refine lv_aload_n hx hb dJx4a65c_elementData_915e3_0 rfl (lv_at hl 0 rfl) ?_
  refine k_ga (C := RJx4a65c) (T := TJx4a65c) (N := 3) (ci := 0) (v := .ref (ad (gKey 3 (s 39).toNatClampNeg))) S hG (fun w h => List.mem_cons_of_mem _ (List.mem_append_right _ h)) 108 (hlv.f (by decide) (by decide)) rfl rfl 1 (by decide) rfl (hts (.fieldLink RJx4a65c 9 "java/util/ArrayList" "elementData" "[Ljava/lang/Object;") (by decide +kernel)) (congrArg (fun z => some (Value.ref z)) (kEd_pos hpos)) dJx4a65c_elementData_915e3_1 ?_
  refine lv_iload_n hx hb dJx4a65c_elementData_915e3_4 rfl (lv_at hl 1 rfl) ?_
  refine k_lld (j := Int32.toNatClampNeg x) (q := ad (4000 + (Int32.toNatClampNeg x))) S hG (gKey 3 (s 39).toNatClampNeg) (hlv.l3 hpos) kJ_la3 rfl (vp_in_t h0 (by have z := t_ix (x := s 39) (by omega); have y := gCap_ge (n := (s 39).toNatClampNeg) (by omega); omega)) (if_pos (hlt)) dJx4a65c_elementData_915e3_5 ?_
  exact g_aret S.1 hr (Or.inl ⟨_, rfl⟩) hlocks hG hL (Or.inr ⟨_, rfl⟩) (by rfl) (congr (congrArg (kJ ce0 ad K.2.2.1 cI cB cO cR) (by rfl)) (by rfl)) dJx4a65c_elementData_915e3_6

set_option maxHeartbeats 4000000 in
set_option maxRecDepth 100000 in
theorem c_get3 {l : Launch} {D : va_G} {cI cZ cB cO cR cJ : ClassId} {Hb : Heap} {K : kTx} {lv : Nat → Prop} {ad : Nat → Nat} {ce0 : Nat → va_E} (s : Nat → Int32) (r : Nat → Nat → Int32) (hlv : kL lv s) (x : Int32) (h0 : 0 ≤ x.toInt) (h1 : x.toInt < (s 39).toInt) (h2 : (s 39).toInt ≤ 60) : kMet l D cI cZ cB cO cR cJ Hb K lv ad ce0 yJx4a65c_get_915e3 wsJx4a65c_get_915e3 2 43 [.ref (ad 108), .int x] s r (some (.ref (ad (4000 + Int32.toNatClampNeg x)))) s r := by
  refine Met.ofW (cc := cJx4a65c_get_915e3) (maxL := 2) (ret := (some (.object "java/lang/Object"))) (by decide) rfl ?_
  intro p0 e0 s0 m0 args below meth c0 s₁ B hml hv
  obtain ⟨rfl, hG, hK, hE⟩ := hv
  have hx := B.exec
  have hb := B.bytes
  have hr := B.returns
  have hts := atoms_spec (ws := wsJx4a65c_get_915e3) B.pre
  have hown : s0.vm.findClass RJx4a65c = some m0.cls := findClass_of_methodNamed B.named
  have hlocks := B.notSynchronized
  have S : kX p0 m0 c0 cJx4a65c_get_915e3 2 s0 _ wsJx4a65c_get_915e3 RJx4a65c D (tyL cI cZ cB cO cR cJ) Hb K := ⟨⟨hx, hb, hml, hown, hts⟩, hK, hE⟩
  have hL : gL Hb [] := gL.nil
  have hH := hG.2.2.2.2
  have hl := lv_entry ([.ref (ad 108), .int x]) (n := 2) (Nat.le_of_ble_eq_true rfl)
  rw [lg_entry_eq]
  generalize (lg_sl ([.ref (ad 108), .int x]) ++ List.replicate (2 - (lg_sl ([.ref (ad 108), .int x])).length) Slot.unset).toArray = ls at hl ⊢
  have hl : lv_has ls 2 [(0, .ref (ad 108)), (1, .int x)] := hl
  refine lv_iload_n hx hb dJx4a65c_get_915e3_0 rfl (lv_at hl 1 rfl) ?_
  refine lv_aload_n hx hb dJx4a65c_get_915e3_1 rfl (lv_at hl 0 rfl) ?_
  refine k_gi (C := RJx4a65c) (T := TJx4a65c) (N := 3) (ci := 0) (v := s 39) S hG (fun w h => List.mem_cons_of_mem _ (List.mem_append_right _ h)) 108 (hlv.f (by decide) (by decide)) rfl rfl 2 (by decide) rfl (hts (.fieldLink RJx4a65c 48 "java/util/ArrayList" "size" "I") (by decide +kernel)) rfl (rfl) dJx4a65c_get_915e3_2 ?_
  refine m_callP (n := 2) (As := [.int x, .int (s 39)]) (rest := []) (st1 := .int x :: []) S.1 (c_J15_checkIndex_7cf53 x (s 39) (h0) (h1)) gJx4a65c_get_915e3_J15_checkIndex_7cf53 rfl (by decide +kernel) ⟨Nat.le_of_ble_eq_true rfl, Nat.le_of_ble_eq_true rfl⟩ rfl hl.1 rfl (Nat.le_of_ble_eq_true rfl) dJx4a65c_get_915e3_5 ⟨Nat.zero_le _, Nat.zero_le _⟩ (rfl) ?_
  refine lv_pop hx hb dJx4a65c_get_915e3_8 rfl ?_
  refine lv_aload_n hx hb dJx4a65c_get_915e3_9 rfl (lv_at hl 0 rfl) ?_
  refine lv_iload_n hx hb dJx4a65c_get_915e3_10 rfl (lv_at hl 1 rfl) ?_
  refine k_callV (n := 1) (As := [.int x]) (rest := []) (st1 := .ref (ad (4000 + Int32.toNatClampNeg x)) :: []) (k := 108) (ci := 0) S hG hL (hlv.f (by decide) (by decide)) rfl rfl (c_eld3 s r hlv  x (h0) (h1) (h2)) gJx4a65c_get_915e3_Jx4a65c_elementData_915e3 rfl ⟨rfl, rfl⟩ (by decide +kernel) ⟨Nat.le_of_ble_eq_true rfl, Nat.le_of_ble_eq_true rfl⟩ rfl hl.1 rfl (Nat.le_of_ble_eq_true rfl) dJx4a65c_get_915e3_11 ⟨Nat.zero_le _, Nat.zero_le _⟩ (rfl) (fun H locs hG hL => ?_)
  exact g_aret S.1 hr (Or.inl ⟨_, rfl⟩) hlocks hG hL (Or.inr ⟨_, rfl⟩) (by rfl) (congr (congrArg (kJ ce0 ad K.2.2.1 cI cB cO cR) (by rfl)) (by rfl)) dJx4a65c_get_915e3_14

set_option maxHeartbeats 4000000 in
set_option maxRecDepth 100000 in
theorem c_X3_told {l : Launch} {D : va_G} {cI cZ cB cO cR cJ : ClassId} {Hb : Heap} {K : kTx} {lv : Nat → Prop} {ad : Nat → Nat} {ce0 : Nat → va_E} (hst : l.stackTraces = false) (s : Nat → Int32) (r : Nat → Nat → Int32) (hlv : kL lv s) (i : Nat) (hi : i < (s 6).toNatClampNeg) (hi9 : i < 1000) (w : Int32)  : xMet l D cI cZ cB cO cR cJ Hb K lv ad ce0 yX3_told wsX3_told 6 92 1 [.ref (ad (1000 + i)), .int w] s r (xTo 4 w) (some (.int ((if w = 0 then r 9 i else if w = 1 then r 10 i else if w = 2 then r 11 i else if w = 3 then r 12 i else r 13 i)))) s r s r := by
  refine vx_ofW (cc := cX3_told) (maxL := 2) (ret := (some .int)) (by decide) rfl ?_
  intro p0 e0 s0 m0 args below meth c0 s₁ B hml hout hv
  obtain ⟨rfl, hG, hK, hE⟩ := hv
  have hx := B.exec
  have hb := B.bytes
  have hr := B.returns
  have hts := atoms_spec (ws := wsX3_told) B.pre
  have hown : s0.vm.findClass RX3 = some m0.cls := findClass_of_methodNamed B.named
  have hlocks := B.notSynchronized
  have S : kX p0 m0 c0 cX3_told 2 s0 _ wsX3_told RX3 D (tyL cI cZ cB cO cR cJ) Hb K := ⟨⟨hx, hb, hml, hown, hts⟩, hK, hE⟩
  have hL : gL Hb [] := gL.nil
  have hH := hG.2.2.2.2
  have hl := lv_entry ([.ref (ad (1000 + i)), .int w]) (n := 2) (Nat.le_of_ble_eq_true rfl)
  rw [lg_entry_eq]
  generalize (lg_sl ([.ref (ad (1000 + i)), .int w]) ++ List.replicate (2 - (lg_sl ([.ref (ad (1000 + i)), .int w])).length) Slot.unset).toArray = ls at hl ⊢
  have hl : lv_has ls 2 [(0, .ref (ad (1000 + i))), (1, .int w)] := hl
  refine lv_iload_n hx hb dX3_told_0 rfl (lv_at hl 1 rfl) ?_
  by_cases csw : w.toInt < 0 ∨ 4 < w.toInt
  ·
    refine lv_tableOut (tgt := 61) hx hb dX3_told_1 csw (by decide) ?_
    exact k_throw (cls := "java/util/NoSuchElementException") (text := "nothing such is told of a hive") (i := 26) S hst hH hG hL (by decide +kernel) (hts (.classLink RX3 57 "java/util/NoSuchElementException") (by decide +kernel)) (hts (.initialized "java/util/NoSuchElementException") (by decide +kernel)) rfl (fun w h => List.mem_cons_of_mem _ (List.mem_append_right _ h)) (by decide +kernel) (by decide +kernel) (by decide +kernel) hl.1 dX3_told_61 dX3_told_64 dX3_told_65 dX3_told_67 dX3_told_70 hout (Nat.le_of_ble_eq_true rfl) (Nat.le_of_ble_eq_true rfl) (Nat.le_of_ble_eq_true rfl) (Nat.le_of_ble_eq_true rfl) hlocks (by show xTo 4 w = _; unfold xTo; rw [if_pos (fIn_out (hi := 4) csw)]) (congr (congrArg (kJ ce0 ad K.2.2.1 cI cB cO cR) (by rfl)) (by rfl)) (Nat.le_of_ble_eq_true rfl) (Nat.le_of_ble_eq_true rfl)
  ·
    have csx : w = 0 ∨ w = 1 ∨ w = 2 ∨ w = 3 ∨ w = 4 := by simp only [t_eq]; simp; omega
    rcases csx with csx | csx | csx | csx | csx
    ·
      refine lv_tableIn (tgt := 36) (off := 35) hx hb dX3_told_1 (by rw [csx]; decide) (by rw [csx]; decide) (by rw [csx]; rfl) (by decide) ?_
      refine lv_aload_n hx hb dX3_told_36 rfl (lv_at hl 0 rfl) ?_
      refine k_gi (C := RX3) (T := TX3) (N := 7) (ci := 4) (v := r 9 i) S hG (fun w h => List.mem_cons_of_mem _ (List.mem_append_left _ (List.mem_append_right _ h))) (1000 + i) (hlv.hv hi) (kJ_hv hi9) rfl 4 (by decide) rfl (hts (.fieldLink RX3 24 "SwarmLine$Hive" "bees" "I") (by decide +kernel)) rfl (rfl) dX3_told_37 ?_
      exact x_iret S.1 hr hlocks hG hL (by rw [csx]; rfl) (congrArg (fun z => some (Value.int z)) (by rw [csx]; rfl)) (congr (congrArg (kJ ce0 ad K.2.2.1 cI cB cO cR) (by rfl)) (by rfl)) dX3_told_40 (Nat.le_of_ble_eq_true rfl) (Nat.le_of_ble_eq_true rfl)
    ·
      refine lv_tableIn (tgt := 41) (off := 40) hx hb dX3_told_1 (by rw [csx]; decide) (by rw [csx]; decide) (by rw [csx]; rfl) (by decide) ?_
      refine lv_aload_n hx hb dX3_told_41 rfl (lv_at hl 0 rfl) ?_
      refine k_gi (C := RX3) (T := TX3) (N := 7) (ci := 4) (v := r 10 i) S hG (fun w h => List.mem_cons_of_mem _ (List.mem_append_left _ (List.mem_append_right _ h))) (1000 + i) (hlv.hv hi) (kJ_hv hi9) rfl 2 (by decide) rfl (hts (.fieldLink RX3 27 "SwarmLine$Hive" "room" "I") (by decide +kernel)) rfl (rfl) dX3_told_42 ?_
      exact x_iret S.1 hr hlocks hG hL (by rw [csx]; rfl) (congrArg (fun z => some (Value.int z)) (by rw [csx]; rfl)) (congr (congrArg (kJ ce0 ad K.2.2.1 cI cB cO cR) (by rfl)) (by rfl)) dX3_told_45 (Nat.le_of_ble_eq_true rfl) (Nat.le_of_ble_eq_true rfl)
    ·
      refine lv_tableIn (tgt := 46) (off := 45) hx hb dX3_told_1 (by rw [csx]; decide) (by rw [csx]; decide) (by rw [csx]; rfl) (by decide) ?_
      refine lv_aload_n hx hb dX3_told_46 rfl (lv_at hl 0 rfl) ?_
      refine k_gi (C := RX3) (T := TX3) (N := 7) (ci := 4) (v := r 11 i) S hG (fun w h => List.mem_cons_of_mem _ (List.mem_append_left _ (List.mem_append_right _ h))) (1000 + i) (hlv.hv hi) (kJ_hv hi9) rfl 3 (by decide) rfl (hts (.fieldLink RX3 30 "SwarmLine$Hive" "mark" "I") (by decide +kernel)) rfl (rfl) dX3_told_47 ?_
      exact x_iret S.1 hr hlocks hG hL (by rw [csx]; rfl) (congrArg (fun z => some (Value.int z)) (by rw [csx]; rfl)) (congr (congrArg (kJ ce0 ad K.2.2.1 cI cB cO cR) (by rfl)) (by rfl)) dX3_told_50 (Nat.le_of_ble_eq_true rfl) (Nat.le_of_ble_eq_true rfl)
    ·
      refine lv_tableIn (tgt := 51) (off := 50) hx hb dX3_told_1 (by rw [csx]; decide) (by rw [csx]; decide) (by rw [csx]; rfl) (by decide) ?_
      refine lv_aload_n hx hb dX3_told_51 rfl (lv_at hl 0 rfl) ?_
      refine k_gi (C := RX3) (T := TX3) (N := 7) (ci := 4) (v := r 12 i) S hG (fun w h => List.mem_cons_of_mem _ (List.mem_append_left _ (List.mem_append_right _ h))) (1000 + i) (hlv.hv hi) (kJ_hv hi9) rfl 5 (by decide) rfl (hts (.fieldLink RX3 9 "SwarmLine$Hive" "warm" "I") (by decide +kernel)) rfl (rfl) dX3_told_52 ?_
      exact x_iret S.1 hr hlocks hG hL (by rw [csx]; rfl) (congrArg (fun z => some (Value.int z)) (by rw [csx]; rfl)) (congr (congrArg (kJ ce0 ad K.2.2.1 cI cB cO cR) (by rfl)) (by rfl)) dX3_told_55 (Nat.le_of_ble_eq_true rfl) (Nat.le_of_ble_eq_true rfl)
    ·
      refine lv_tableIn (tgt := 56) (off := 55) hx hb dX3_told_1 (by rw [csx]; decide) (by rw [csx]; decide) (by rw [csx]; rfl) (by decide) ?_
      refine lv_aload_n hx hb dX3_told_56 rfl (lv_at hl 0 rfl) ?_
      refine k_gi (C := RX3) (T := TX3) (N := 7) (ci := 4) (v := r 13 i) S hG (fun w h => List.mem_cons_of_mem _ (List.mem_append_left _ (List.mem_append_right _ h))) (1000 + i) (hlv.hv hi) (kJ_hv hi9) rfl 6 (by decide) rfl (hts (.fieldLink RX3 15 "SwarmLine$Hive" "swarmedLast" "I") (by decide +kernel)) rfl (rfl) dX3_told_57 ?_
      exact x_iret S.1 hr hlocks hG hL (by rw [csx]; rfl) (congrArg (fun z => some (Value.int z)) (by rw [csx]; rfl)) (congr (congrArg (kJ ce0 ad K.2.2.1 cI cB cO cR) (by rfl)) (by rfl)) dX3_told_60 (Nat.le_of_ble_eq_true rfl) (Nat.le_of_ble_eq_true rfl)

set_option maxHeartbeats 4000000 in
set_option maxRecDepth 100000 in
theorem c_X4_told {l : Launch} {D : va_G} {cI cZ cB cO cR cJ : ClassId} {Hb : Heap} {K : kTx} {lv : Nat → Prop} {ad : Nat → Nat} {ce0 : Nat → va_E} (hst : l.stackTraces = false) (s : Nat → Int32) (r : Nat → Nat → Int32) (hlv : kL lv s) (i : Nat) (hi : i < (s 26).toNatClampNeg) (hi9 : i < 1000) (w : Int32)  : xMet l D cI cZ cB cO cR cJ Hb K lv ad ce0 yX4_told wsX4_told 6 92 1 [.ref (ad (3000 + i)), .int w] s r (xTo 4 w) (some (.int ((if w = 0 then r 34 i else if w = 1 then r 29 i else if w = 2 then r 35 i else if w = 3 then r 37 i else r 38 i)))) s r s r := by
  refine vx_ofW (cc := cX4_told) (maxL := 2) (ret := (some .int)) (by decide) rfl ?_
  intro p0 e0 s0 m0 args below meth c0 s₁ B hml hout hv
  obtain ⟨rfl, hG, hK, hE⟩ := hv
  have hx := B.exec
  have hb := B.bytes
  have hr := B.returns
  have hts := atoms_spec (ws := wsX4_told) B.pre
  have hown : s0.vm.findClass RX4 = some m0.cls := findClass_of_methodNamed B.named
  have hlocks := B.notSynchronized
  have S : kX p0 m0 c0 cX4_told 2 s0 _ wsX4_told RX4 D (tyL cI cZ cB cO cR cJ) Hb K := ⟨⟨hx, hb, hml, hown, hts⟩, hK, hE⟩
  have hL : gL Hb [] := gL.nil
  have hH := hG.2.2.2.2
  have hl := lv_entry ([.ref (ad (3000 + i)), .int w]) (n := 2) (Nat.le_of_ble_eq_true rfl)
  rw [lg_entry_eq]
  generalize (lg_sl ([.ref (ad (3000 + i)), .int w]) ++ List.replicate (2 - (lg_sl ([.ref (ad (3000 + i)), .int w])).length) Slot.unset).toArray = ls at hl ⊢
  have hl : lv_has ls 2 [(0, .ref (ad (3000 + i))), (1, .int w)] := hl
  refine lv_iload_n hx hb dX4_told_0 rfl (lv_at hl 1 rfl) ?_
  by_cases csw : w.toInt < 0 ∨ 4 < w.toInt
  ·
    refine lv_tableOut (tgt := 61) hx hb dX4_told_1 csw (by decide) ?_
    exact k_throw (cls := "java/util/NoSuchElementException") (text := "nothing such is told of a keeper") (i := 28) S hst hH hG hL (by decide +kernel) (hts (.classLink RX4 60 "java/util/NoSuchElementException") (by decide +kernel)) (hts (.initialized "java/util/NoSuchElementException") (by decide +kernel)) rfl (fun w h => List.mem_cons_of_mem _ (List.mem_append_right _ h)) (by decide +kernel) (by decide +kernel) (by decide +kernel) hl.1 dX4_told_61 dX4_told_64 dX4_told_65 dX4_told_67 dX4_told_70 hout (Nat.le_of_ble_eq_true rfl) (Nat.le_of_ble_eq_true rfl) (Nat.le_of_ble_eq_true rfl) (Nat.le_of_ble_eq_true rfl) hlocks (by show xTo 4 w = _; unfold xTo; rw [if_pos (fIn_out (hi := 4) csw)]) (congr (congrArg (kJ ce0 ad K.2.2.1 cI cB cO cR) (by rfl)) (by rfl)) (Nat.le_of_ble_eq_true rfl) (Nat.le_of_ble_eq_true rfl)
  ·
    have csx : w = 0 ∨ w = 1 ∨ w = 2 ∨ w = 3 ∨ w = 4 := by simp only [t_eq]; simp; omega
    rcases csx with csx | csx | csx | csx | csx
    ·
      refine lv_tableIn (tgt := 36) (off := 35) hx hb dX4_told_1 (by rw [csx]; decide) (by rw [csx]; decide) (by rw [csx]; rfl) (by decide) ?_
      refine lv_aload_n hx hb dX4_told_36 rfl (lv_at hl 0 rfl) ?_
      refine k_gi (C := RX4) (T := TX4) (N := 12) (ci := 5) (v := r 34 i) S hG (fun w h => List.mem_cons_of_mem _ (List.mem_append_left _ (List.mem_append_right _ h))) (3000 + i) (hlv.kp hi) (kJ_kp hi9) rfl 7 (by decide) rfl (hts (.fieldLink RX4 9 "SwarmLine$Keeper" "state" "I") (by decide +kernel)) rfl (rfl) dX4_told_37 ?_
      exact x_iret S.1 hr hlocks hG hL (by rw [csx]; rfl) (congrArg (fun z => some (Value.int z)) (by rw [csx]; rfl)) (congr (congrArg (kJ ce0 ad K.2.2.1 cI cB cO cR) (by rfl)) (by rfl)) dX4_told_40 (Nat.le_of_ble_eq_true rfl) (Nat.le_of_ble_eq_true rfl)
    ·
      refine lv_tableIn (tgt := 41) (off := 40) hx hb dX4_told_1 (by rw [csx]; decide) (by rw [csx]; decide) (by rw [csx]; rfl) (by decide) ?_
      refine lv_aload_n hx hb dX4_told_41 rfl (lv_at hl 0 rfl) ?_
      refine k_gi (C := RX4) (T := TX4) (N := 12) (ci := 5) (v := r 29 i) S hG (fun w h => List.mem_cons_of_mem _ (List.mem_append_left _ (List.mem_append_right _ h))) (3000 + i) (hlv.kp hi) (kJ_kp hi9) rfl 6 (by decide) rfl (hts (.fieldLink RX4 33 "SwarmLine$Keeper" "boxes" "I") (by decide +kernel)) rfl (rfl) dX4_told_42 ?_
      exact x_iret S.1 hr hlocks hG hL (by rw [csx]; rfl) (congrArg (fun z => some (Value.int z)) (by rw [csx]; rfl)) (congr (congrArg (kJ ce0 ad K.2.2.1 cI cB cO cR) (by rfl)) (by rfl)) dX4_told_45 (Nat.le_of_ble_eq_true rfl) (Nat.le_of_ble_eq_true rfl)
    ·
      refine lv_tableIn (tgt := 46) (off := 45) hx hb dX4_told_1 (by rw [csx]; decide) (by rw [csx]; decide) (by rw [csx]; rfl) (by decide) ?_
      refine lv_aload_n hx hb dX4_told_46 rfl (lv_at hl 0 rfl) ?_
      refine k_gi (C := RX4) (T := TX4) (N := 12) (ci := 5) (v := r 35 i) S hG (fun w h => List.mem_cons_of_mem _ (List.mem_append_left _ (List.mem_append_right _ h))) (3000 + i) (hlv.kp hi) (kJ_kp hi9) rfl 9 (by decide) rfl (hts (.fieldLink RX4 18 "SwarmLine$Keeper" "hoursToGo" "I") (by decide +kernel)) rfl (rfl) dX4_told_47 ?_
      exact x_iret S.1 hr hlocks hG hL (by rw [csx]; rfl) (congrArg (fun z => some (Value.int z)) (by rw [csx]; rfl)) (congr (congrArg (kJ ce0 ad K.2.2.1 cI cB cO cR) (by rfl)) (by rfl)) dX4_told_50 (Nat.le_of_ble_eq_true rfl) (Nat.le_of_ble_eq_true rfl)
    ·
      refine lv_tableIn (tgt := 51) (off := 50) hx hb dX4_told_1 (by rw [csx]; decide) (by rw [csx]; decide) (by rw [csx]; rfl) (by decide) ?_
      refine lv_aload_n hx hb dX4_told_51 rfl (lv_at hl 0 rfl) ?_
      refine k_gi (C := RX4) (T := TX4) (N := 12) (ci := 5) (v := r 37 i) S hG (fun w h => List.mem_cons_of_mem _ (List.mem_append_left _ (List.mem_append_right _ h))) (3000 + i) (hlv.kp hi) (kJ_kp hi9) rfl 10 (by decide) rfl (hts (.fieldLink RX4 21 "SwarmLine$Keeper" "aCase" "I") (by decide +kernel)) rfl (rfl) dX4_told_52 ?_
      exact x_iret S.1 hr hlocks hG hL (by rw [csx]; rfl) (congrArg (fun z => some (Value.int z)) (by rw [csx]; rfl)) (congr (congrArg (kJ ce0 ad K.2.2.1 cI cB cO cR) (by rfl)) (by rfl)) dX4_told_55 (Nat.le_of_ble_eq_true rfl) (Nat.le_of_ble_eq_true rfl)
    ·
      refine lv_tableIn (tgt := 56) (off := 55) hx hb dX4_told_1 (by rw [csx]; decide) (by rw [csx]; decide) (by rw [csx]; rfl) (by decide) ?_
      refine lv_aload_n hx hb dX4_told_56 rfl (lv_at hl 0 rfl) ?_
      refine k_gi (C := RX4) (T := TX4) (N := 12) (ci := 5) (v := r 38 i) S hG (fun w h => List.mem_cons_of_mem _ (List.mem_append_left _ (List.mem_append_right _ h))) (3000 + i) (hlv.kp hi) (kJ_kp hi9) rfl 11 (by decide) rfl (hts (.fieldLink RX4 24 "SwarmLine$Keeper" "swarmsHad" "I") (by decide +kernel)) rfl (rfl) dX4_told_57 ?_
      exact x_iret S.1 hr hlocks hG hL (by rw [csx]; rfl) (congrArg (fun z => some (Value.int z)) (by rw [csx]; rfl)) (congr (congrArg (kJ ce0 ad K.2.2.1 cI cB cO cR) (by rfl)) (by rfl)) dX4_told_60 (Nat.le_of_ble_eq_true rfl) (Nat.le_of_ble_eq_true rfl)

set_option maxHeartbeats 4000000 in
set_option maxRecDepth 100000 in
theorem c_X6_told {l : Launch} {D : va_G} {cI cZ cB cO cR cJ : ClassId} {Hb : Heap} {K : kTx} {lv : Nat → Prop} {ad : Nat → Nat} {ce0 : Nat → va_E} (hst : l.stackTraces = false) (s : Nat → Int32) (r : Nat → Nat → Int32) (hlv : kL lv s) (i : Nat) (hi : i < (s 14).toNatClampNeg) (hi9 : i < 1000) (w : Int32)  : xMet l D cI cZ cB cO cR cJ Hb K lv ad ce0 yX6_told wsX6_told 6 92 1 [.ref (ad (2000 + i)), .int w] s r (xTo 9 w) (some (.int (tab9 w (r 15 i) (r 16 i) (r 17 i) (r 18 i) (r 19 i) (r 20 i) (r 21 i) (r 22 i) (r 23 i) (r 24 i)))) s r s r := by
  refine vx_ofW (cc := cX6_told) (maxL := 2) (ret := (some .int)) (by decide) rfl ?_
  intro p0 e0 s0 m0 args below meth c0 s₁ B hml hout hv
  obtain ⟨rfl, hG, hK, hE⟩ := hv
  have hx := B.exec
  have hb := B.bytes
  have hr := B.returns
  have hts := atoms_spec (ws := wsX6_told) B.pre
  have hown : s0.vm.findClass RX6 = some m0.cls := findClass_of_methodNamed B.named
  have hlocks := B.notSynchronized
  have S : kX p0 m0 c0 cX6_told 2 s0 _ wsX6_told RX6 D (tyL cI cZ cB cO cR cJ) Hb K := ⟨⟨hx, hb, hml, hown, hts⟩, hK, hE⟩
  have hL : gL Hb [] := gL.nil
  have hH := hG.2.2.2.2
  have hl := lv_entry ([.ref (ad (2000 + i)), .int w]) (n := 2) (Nat.le_of_ble_eq_true rfl)
  rw [lg_entry_eq]
  generalize (lg_sl ([.ref (ad (2000 + i)), .int w]) ++ List.replicate (2 - (lg_sl ([.ref (ad (2000 + i)), .int w])).length) Slot.unset).toArray = ls at hl ⊢
  have hl : lv_has ls 2 [(0, .ref (ad (2000 + i))), (1, .int w)] := hl
  refine lv_iload_n hx hb dX6_told_0 rfl (lv_at hl 1 rfl) ?_
  by_cases csw : w.toInt < 0 ∨ 9 < w.toInt
  ·
    refine lv_tableOut (tgt := 106) hx hb dX6_told_1 csw (by decide) ?_
    exact k_throw (cls := "java/util/NoSuchElementException") (text := "nothing such is told of a swarm") (i := 27) S hst hH hG hL (by decide +kernel) (hts (.classLink RX6 62 "java/util/NoSuchElementException") (by decide +kernel)) (hts (.initialized "java/util/NoSuchElementException") (by decide +kernel)) rfl (fun w h => List.mem_cons_of_mem _ (List.mem_append_right _ h)) (by decide +kernel) (by decide +kernel) (by decide +kernel) hl.1 dX6_told_106 dX6_told_109 dX6_told_110 dX6_told_112 dX6_told_115 hout (Nat.le_of_ble_eq_true rfl) (Nat.le_of_ble_eq_true rfl) (Nat.le_of_ble_eq_true rfl) (Nat.le_of_ble_eq_true rfl) hlocks (by show xTo 9 w = _; unfold xTo; rw [if_pos (fIn_out (hi := 9) csw)]) (congr (congrArg (kJ ce0 ad K.2.2.1 cI cB cO cR) (by rfl)) (by rfl)) (Nat.le_of_ble_eq_true rfl) (Nat.le_of_ble_eq_true rfl)
  ·
    have csx : w = 0 ∨ w = 1 ∨ w = 2 ∨ w = 3 ∨ w = 4 ∨ w = 5 ∨ w = 6 ∨ w = 7 ∨ w = 8 ∨ w = 9 := by simp only [t_eq]; simp; omega
    rcases csx with csx | csx | csx | csx | csx | csx | csx | csx | csx | csx
    ·
      refine lv_tableIn (tgt := 56) (off := 55) hx hb dX6_told_1 (by rw [csx]; decide) (by rw [csx]; decide) (by rw [csx]; rfl) (by decide) ?_
      refine lv_aload_n hx hb dX6_told_56 rfl (lv_at hl 0 rfl) ?_
      refine k_gi (C := RX6) (T := TX6) (N := 11) (ci := 7) (v := r 15 i) S hG (fun w h => List.mem_cons_of_mem _ (List.mem_append_left _ (List.mem_append_right _ h))) (2000 + i) (hlv.sw hi) (kJ_sw hi9) rfl 7 (by decide) rfl (hts (.fieldLink RX6 15 "SwarmLine$Swarm" "state" "I") (by decide +kernel)) rfl (rfl) dX6_told_57 ?_
      exact x_iret S.1 hr hlocks hG hL (by rw [csx]; rfl) (congrArg (fun z => some (Value.int z)) (by rw [csx]; rfl)) (congr (congrArg (kJ ce0 ad K.2.2.1 cI cB cO cR) (by rfl)) (by rfl)) dX6_told_60 (Nat.le_of_ble_eq_true rfl) (Nat.le_of_ble_eq_true rfl)
    ·
      refine lv_tableIn (tgt := 61) (off := 60) hx hb dX6_told_1 (by rw [csx]; decide) (by rw [csx]; decide) (by rw [csx]; rfl) (by decide) ?_
      refine lv_aload_n hx hb dX6_told_61 rfl (lv_at hl 0 rfl) ?_
      refine k_gi (C := RX6) (T := TX6) (N := 11) (ci := 7) (v := r 16 i) S hG (fun w h => List.mem_cons_of_mem _ (List.mem_append_left _ (List.mem_append_right _ h))) (2000 + i) (hlv.sw hi) (kJ_sw hi9) rfl 0 (by decide) rfl (hts (.fieldLink RX6 27 "SwarmLine$Swarm" "hive" "I") (by decide +kernel)) rfl (rfl) dX6_told_62 ?_
      exact x_iret S.1 hr hlocks hG hL (by rw [csx]; rfl) (congrArg (fun z => some (Value.int z)) (by rw [csx]; rfl)) (congr (congrArg (kJ ce0 ad K.2.2.1 cI cB cO cR) (by rfl)) (by rfl)) dX6_told_65 (Nat.le_of_ble_eq_true rfl) (Nat.le_of_ble_eq_true rfl)
    ·
      refine lv_tableIn (tgt := 66) (off := 65) hx hb dX6_told_1 (by rw [csx]; decide) (by rw [csx]; decide) (by rw [csx]; rfl) (by decide) ?_
      refine lv_aload_n hx hb dX6_told_66 rfl (lv_at hl 0 rfl) ?_
      refine k_gi (C := RX6) (T := TX6) (N := 11) (ci := 7) (v := r 17 i) S hG (fun w h => List.mem_cons_of_mem _ (List.mem_append_left _ (List.mem_append_right _ h))) (2000 + i) (hlv.sw hi) (kJ_sw hi9) rfl 1 (by decide) rfl (hts (.fieldLink RX6 35 "SwarmLine$Swarm" "bees" "I") (by decide +kernel)) rfl (rfl) dX6_told_67 ?_
      exact x_iret S.1 hr hlocks hG hL (by rw [csx]; rfl) (congrArg (fun z => some (Value.int z)) (by rw [csx]; rfl)) (congr (congrArg (kJ ce0 ad K.2.2.1 cI cB cO cR) (by rfl)) (by rfl)) dX6_told_70 (Nat.le_of_ble_eq_true rfl) (Nat.le_of_ble_eq_true rfl)
    ·
      refine lv_tableIn (tgt := 71) (off := 70) hx hb dX6_told_1 (by rw [csx]; decide) (by rw [csx]; decide) (by rw [csx]; rfl) (by decide) ?_
      refine lv_aload_n hx hb dX6_told_71 rfl (lv_at hl 0 rfl) ?_
      refine k_gi (C := RX6) (T := TX6) (N := 11) (ci := 7) (v := r 18 i) S hG (fun w h => List.mem_cons_of_mem _ (List.mem_append_left _ (List.mem_append_right _ h))) (2000 + i) (hlv.sw hi) (kJ_sw hi9) rfl 2 (by decide) rfl (hts (.fieldLink RX6 43 "SwarmLine$Swarm" "x" "I") (by decide +kernel)) rfl (rfl) dX6_told_72 ?_
      exact x_iret S.1 hr hlocks hG hL (by rw [csx]; rfl) (congrArg (fun z => some (Value.int z)) (by rw [csx]; rfl)) (congr (congrArg (kJ ce0 ad K.2.2.1 cI cB cO cR) (by rfl)) (by rfl)) dX6_told_75 (Nat.le_of_ble_eq_true rfl) (Nat.le_of_ble_eq_true rfl)
    ·
      refine lv_tableIn (tgt := 76) (off := 75) hx hb dX6_told_1 (by rw [csx]; decide) (by rw [csx]; decide) (by rw [csx]; rfl) (by decide) ?_
      refine lv_aload_n hx hb dX6_told_76 rfl (lv_at hl 0 rfl) ?_
      refine k_gi (C := RX6) (T := TX6) (N := 11) (ci := 7) (v := r 19 i) S hG (fun w h => List.mem_cons_of_mem _ (List.mem_append_left _ (List.mem_append_right _ h))) (2000 + i) (hlv.sw hi) (kJ_sw hi9) rfl 3 (by decide) rfl (hts (.fieldLink RX6 47 "SwarmLine$Swarm" "y" "I") (by decide +kernel)) rfl (rfl) dX6_told_77 ?_
      exact x_iret S.1 hr hlocks hG hL (by rw [csx]; rfl) (congrArg (fun z => some (Value.int z)) (by rw [csx]; rfl)) (congr (congrArg (kJ ce0 ad K.2.2.1 cI cB cO cR) (by rfl)) (by rfl)) dX6_told_80 (Nat.le_of_ble_eq_true rfl) (Nat.le_of_ble_eq_true rfl)
    ·
      refine lv_tableIn (tgt := 81) (off := 80) hx hb dX6_told_1 (by rw [csx]; decide) (by rw [csx]; decide) (by rw [csx]; rfl) (by decide) ?_
      refine lv_aload_n hx hb dX6_told_81 rfl (lv_at hl 0 rfl) ?_
      refine k_gi (C := RX6) (T := TX6) (N := 11) (ci := 7) (v := r 20 i) S hG (fun w h => List.mem_cons_of_mem _ (List.mem_append_left _ (List.mem_append_right _ h))) (2000 + i) (hlv.sw hi) (kJ_sw hi9) rfl 4 (by decide) rfl (hts (.fieldLink RX6 48 "SwarmLine$Swarm" "height" "I") (by decide +kernel)) rfl (rfl) dX6_told_82 ?_
      exact x_iret S.1 hr hlocks hG hL (by rw [csx]; rfl) (congrArg (fun z => some (Value.int z)) (by rw [csx]; rfl)) (congr (congrArg (kJ ce0 ad K.2.2.1 cI cB cO cR) (by rfl)) (by rfl)) dX6_told_85 (Nat.le_of_ble_eq_true rfl) (Nat.le_of_ble_eq_true rfl)
    ·
      refine lv_tableIn (tgt := 86) (off := 85) hx hb dX6_told_1 (by rw [csx]; decide) (by rw [csx]; decide) (by rw [csx]; rfl) (by decide) ?_
      refine lv_aload_n hx hb dX6_told_86 rfl (lv_at hl 0 rfl) ?_
      refine k_gi (C := RX6) (T := TX6) (N := 11) (ci := 7) (v := r 21 i) S hG (fun w h => List.mem_cons_of_mem _ (List.mem_append_left _ (List.mem_append_right _ h))) (2000 + i) (hlv.sw hi) (kJ_sw hi9) rfl 5 (by decide) rfl (hts (.fieldLink RX6 51 "SwarmLine$Swarm" "leftAt" "I") (by decide +kernel)) rfl (rfl) dX6_told_87 ?_
      exact x_iret S.1 hr hlocks hG hL (by rw [csx]; rfl) (congrArg (fun z => some (Value.int z)) (by rw [csx]; rfl)) (congr (congrArg (kJ ce0 ad K.2.2.1 cI cB cO cR) (by rfl)) (by rfl)) dX6_told_90 (Nat.le_of_ble_eq_true rfl) (Nat.le_of_ble_eq_true rfl)
    ·
      refine lv_tableIn (tgt := 91) (off := 90) hx hb dX6_told_1 (by rw [csx]; decide) (by rw [csx]; decide) (by rw [csx]; rfl) (by decide) ?_
      refine lv_aload_n hx hb dX6_told_91 rfl (lv_at hl 0 rfl) ?_
      refine k_gi (C := RX6) (T := TX6) (N := 11) (ci := 7) (v := r 22 i) S hG (fun w h => List.mem_cons_of_mem _ (List.mem_append_left _ (List.mem_append_right _ h))) (2000 + i) (hlv.sw hi) (kJ_sw hi9) rfl 6 (by decide) rfl (hts (.fieldLink RX6 9 "SwarmLine$Swarm" "patience" "I") (by decide +kernel)) rfl (rfl) dX6_told_92 ?_
      exact x_iret S.1 hr hlocks hG hL (by rw [csx]; rfl) (congrArg (fun z => some (Value.int z)) (by rw [csx]; rfl)) (congr (congrArg (kJ ce0 ad K.2.2.1 cI cB cO cR) (by rfl)) (by rfl)) dX6_told_95 (Nat.le_of_ble_eq_true rfl) (Nat.le_of_ble_eq_true rfl)
    ·
      refine lv_tableIn (tgt := 96) (off := 95) hx hb dX6_told_1 (by rw [csx]; decide) (by rw [csx]; decide) (by rw [csx]; rfl) (by decide) ?_
      refine lv_aload_n hx hb dX6_told_96 rfl (lv_at hl 0 rfl) ?_
      refine k_gi (C := RX6) (T := TX6) (N := 11) (ci := 7) (v := r 23 i) S hG (fun w h => List.mem_cons_of_mem _ (List.mem_append_left _ (List.mem_append_right _ h))) (2000 + i) (hlv.sw hi) (kJ_sw hi9) rfl 8 (by decide) rfl (hts (.fieldLink RX6 18 "SwarmLine$Swarm" "keeper" "I") (by decide +kernel)) rfl (rfl) dX6_told_97 ?_
      exact x_iret S.1 hr hlocks hG hL (by rw [csx]; rfl) (congrArg (fun z => some (Value.int z)) (by rw [csx]; rfl)) (congr (congrArg (kJ ce0 ad K.2.2.1 cI cB cO cR) (by rfl)) (by rfl)) dX6_told_100 (Nat.le_of_ble_eq_true rfl) (Nat.le_of_ble_eq_true rfl)
    ·
      refine lv_tableIn (tgt := 101) (off := 100) hx hb dX6_told_1 (by rw [csx]; decide) (by rw [csx]; decide) (by rw [csx]; rfl) (by decide) ?_
      refine lv_aload_n hx hb dX6_told_101 rfl (lv_at hl 0 rfl) ?_
      refine k_gi (C := RX6) (T := TX6) (N := 11) (ci := 7) (v := r 24 i) S hG (fun w h => List.mem_cons_of_mem _ (List.mem_append_left _ (List.mem_append_right _ h))) (2000 + i) (hlv.sw hi) (kJ_sw hi9) rfl 10 (by decide) rfl (hts (.fieldLink RX6 24 "SwarmLine$Swarm" "ended" "I") (by decide +kernel)) rfl (rfl) dX6_told_102 ?_
      exact x_iret S.1 hr hlocks hG hL (by rw [csx]; rfl) (congrArg (fun z => some (Value.int z)) (by rw [csx]; rfl)) (congr (congrArg (kJ ce0 ad K.2.2.1 cI cB cO cR) (by rfl)) (by rfl)) dX6_told_105 (Nat.le_of_ble_eq_true rfl) (Nat.le_of_ble_eq_true rfl)

set_option maxHeartbeats 4000000 in
set_option maxRecDepth 100000 in
theorem c_X1_told {l : Launch} {D : va_G} {cI cZ cB cO cR cJ : ClassId} {Hb : Heap} {K : kTx} {lv : Nat → Prop} {ad : Nat → Nat} {ce0 : Nat → va_E} (hst : l.stackTraces = false) (s : Nat → Int32) (r : Nat → Nat → Int32) (hlv : kL lv s) (i : Nat) (hi : i < (s 39).toNatClampNeg) (hi9 : i < 1000) (w : Int32)  : xMet l D cI cZ cB cO cR cJ Hb K lv ad ce0 yX1_told wsX1_told 6 92 1 [.ref (ad (4000 + i)), .int w] s r (xTo 9 w) (some (.int (tab9 w (r 41 i) (r 42 i) (r 43 i) (r 45 i) (r 46 i) (r 47 i) (r 48 i) (r 49 i) (r 50 i) (r 51 i)))) s r s r := by
  refine vx_ofW (cc := cX1_told) (maxL := 2) (ret := (some .int)) (by decide) rfl ?_
  intro p0 e0 s0 m0 args below meth c0 s₁ B hml hout hv
  obtain ⟨rfl, hG, hK, hE⟩ := hv
  have hx := B.exec
  have hb := B.bytes
  have hr := B.returns
  have hts := atoms_spec (ws := wsX1_told) B.pre
  have hown : s0.vm.findClass RX1 = some m0.cls := findClass_of_methodNamed B.named
  have hlocks := B.notSynchronized
  have S : kX p0 m0 c0 cX1_told 2 s0 _ wsX1_told RX1 D (tyL cI cZ cB cO cR cJ) Hb K := ⟨⟨hx, hb, hml, hown, hts⟩, hK, hE⟩
  have hL : gL Hb [] := gL.nil
  have hH := hG.2.2.2.2
  have hl := lv_entry ([.ref (ad (4000 + i)), .int w]) (n := 2) (Nat.le_of_ble_eq_true rfl)
  rw [lg_entry_eq]
  generalize (lg_sl ([.ref (ad (4000 + i)), .int w]) ++ List.replicate (2 - (lg_sl ([.ref (ad (4000 + i)), .int w])).length) Slot.unset).toArray = ls at hl ⊢
  have hl : lv_has ls 2 [(0, .ref (ad (4000 + i))), (1, .int w)] := hl
  refine lv_iload_n hx hb dX1_told_0 rfl (lv_at hl 1 rfl) ?_
  by_cases csw : w.toInt < 0 ∨ 9 < w.toInt
  ·
    refine lv_tableOut (tgt := 106) hx hb dX1_told_1 csw (by decide) ?_
    exact k_throw (cls := "java/util/NoSuchElementException") (text := "nothing such is told of a case") (i := 29) S hst hH hG hL (by decide +kernel) (hts (.classLink RX1 66 "java/util/NoSuchElementException") (by decide +kernel)) (hts (.initialized "java/util/NoSuchElementException") (by decide +kernel)) rfl (fun w h => List.mem_cons_of_mem _ (List.mem_append_right _ h)) (by decide +kernel) (by decide +kernel) (by decide +kernel) hl.1 dX1_told_106 dX1_told_109 dX1_told_110 dX1_told_112 dX1_told_115 hout (Nat.le_of_ble_eq_true rfl) (Nat.le_of_ble_eq_true rfl) (Nat.le_of_ble_eq_true rfl) (Nat.le_of_ble_eq_true rfl) hlocks (by show xTo 9 w = _; unfold xTo; rw [if_pos (fIn_out (hi := 9) csw)]) (congr (congrArg (kJ ce0 ad K.2.2.1 cI cB cO cR) (by rfl)) (by rfl)) (Nat.le_of_ble_eq_true rfl) (Nat.le_of_ble_eq_true rfl)
  ·
    have csx : w = 0 ∨ w = 1 ∨ w = 2 ∨ w = 3 ∨ w = 4 ∨ w = 5 ∨ w = 6 ∨ w = 7 ∨ w = 8 ∨ w = 9 := by simp only [t_eq]; simp; omega
    rcases csx with csx | csx | csx | csx | csx | csx | csx | csx | csx | csx
    ·
      refine lv_tableIn (tgt := 56) (off := 55) hx hb dX1_told_1 (by rw [csx]; decide) (by rw [csx]; decide) (by rw [csx]; rfl) (by decide) ?_
      refine lv_aload_n hx hb dX1_told_56 rfl (lv_at hl 0 rfl) ?_
      refine k_gi (C := RX1) (T := TX1) (N := 11) (ci := 2) (v := r 41 i) S hG (fun w h => List.mem_cons_of_mem _ (List.mem_append_left _ (List.mem_append_right _ h))) (4000 + i) (hlv.ca hi) (kJ_ca hi9) rfl 3 (by decide) rfl (hts (.fieldLink RX1 15 "SwarmLine$Case" "state" "I") (by decide +kernel)) rfl (rfl) dX1_told_57 ?_
      exact x_iret S.1 hr hlocks hG hL (by rw [csx]; rfl) (congrArg (fun z => some (Value.int z)) (by rw [csx]; rfl)) (congr (congrArg (kJ ce0 ad K.2.2.1 cI cB cO cR) (by rfl)) (by rfl)) dX1_told_60 (Nat.le_of_ble_eq_true rfl) (Nat.le_of_ble_eq_true rfl)
    ·
      refine lv_tableIn (tgt := 61) (off := 60) hx hb dX1_told_1 (by rw [csx]; decide) (by rw [csx]; decide) (by rw [csx]; rfl) (by decide) ?_
      refine lv_aload_n hx hb dX1_told_61 rfl (lv_at hl 0 rfl) ?_
      refine k_gi (C := RX1) (T := TX1) (N := 11) (ci := 2) (v := r 42 i) S hG (fun w h => List.mem_cons_of_mem _ (List.mem_append_left _ (List.mem_append_right _ h))) (4000 + i) (hlv.ca hi) (kJ_ca hi9) rfl 0 (by decide) rfl (hts (.fieldLink RX1 40 "SwarmLine$Case" "x" "I") (by decide +kernel)) rfl (rfl) dX1_told_62 ?_
      exact x_iret S.1 hr hlocks hG hL (by rw [csx]; rfl) (congrArg (fun z => some (Value.int z)) (by rw [csx]; rfl)) (congr (congrArg (kJ ce0 ad K.2.2.1 cI cB cO cR) (by rfl)) (by rfl)) dX1_told_65 (Nat.le_of_ble_eq_true rfl) (Nat.le_of_ble_eq_true rfl)
    ·
      refine lv_tableIn (tgt := 66) (off := 65) hx hb dX1_told_1 (by rw [csx]; decide) (by rw [csx]; decide) (by rw [csx]; rfl) (by decide) ?_
      refine lv_aload_n hx hb dX1_told_66 rfl (lv_at hl 0 rfl) ?_
      refine k_gi (C := RX1) (T := TX1) (N := 11) (ci := 2) (v := r 43 i) S hG (fun w h => List.mem_cons_of_mem _ (List.mem_append_left _ (List.mem_append_right _ h))) (4000 + i) (hlv.ca hi) (kJ_ca hi9) rfl 1 (by decide) rfl (hts (.fieldLink RX1 43 "SwarmLine$Case" "y" "I") (by decide +kernel)) rfl (rfl) dX1_told_67 ?_
      exact x_iret S.1 hr hlocks hG hL (by rw [csx]; rfl) (congrArg (fun z => some (Value.int z)) (by rw [csx]; rfl)) (congr (congrArg (kJ ce0 ad K.2.2.1 cI cB cO cR) (by rfl)) (by rfl)) dX1_told_70 (Nat.le_of_ble_eq_true rfl) (Nat.le_of_ble_eq_true rfl)
    ·
      refine lv_tableIn (tgt := 71) (off := 70) hx hb dX1_told_1 (by rw [csx]; decide) (by rw [csx]; decide) (by rw [csx]; rfl) (by decide) ?_
      refine lv_aload_n hx hb dX1_told_71 rfl (lv_at hl 0 rfl) ?_
      refine k_gi (C := RX1) (T := TX1) (N := 11) (ci := 2) (v := r 45 i) S hG (fun w h => List.mem_cons_of_mem _ (List.mem_append_left _ (List.mem_append_right _ h))) (4000 + i) (hlv.ca hi) (kJ_ca hi9) rfl 4 (by decide) rfl (hts (.fieldLink RX1 19 "SwarmLine$Case" "high" "I") (by decide +kernel)) rfl (rfl) dX1_told_72 ?_
      exact x_iret S.1 hr hlocks hG hL (by rw [csx]; rfl) (congrArg (fun z => some (Value.int z)) (by rw [csx]; rfl)) (congr (congrArg (kJ ce0 ad K.2.2.1 cI cB cO cR) (by rfl)) (by rfl)) dX1_told_75 (Nat.le_of_ble_eq_true rfl) (Nat.le_of_ble_eq_true rfl)
    ·
      refine lv_tableIn (tgt := 76) (off := 75) hx hb dX1_told_1 (by rw [csx]; decide) (by rw [csx]; decide) (by rw [csx]; rfl) (by decide) ?_
      refine lv_aload_n hx hb dX1_told_76 rfl (lv_at hl 0 rfl) ?_
      refine k_gi (C := RX1) (T := TX1) (N := 11) (ci := 2) (v := r 46 i) S hG (fun w h => List.mem_cons_of_mem _ (List.mem_append_left _ (List.mem_append_right _ h))) (4000 + i) (hlv.ca hi) (kJ_ca hi9) rfl 5 (by decide) rfl (hts (.fieldLink RX1 22 "SwarmLine$Case" "since" "I") (by decide +kernel)) rfl (rfl) dX1_told_77 ?_
      exact x_iret S.1 hr hlocks hG hL (by rw [csx]; rfl) (congrArg (fun z => some (Value.int z)) (by rw [csx]; rfl)) (congr (congrArg (kJ ce0 ad K.2.2.1 cI cB cO cR) (by rfl)) (by rfl)) dX1_told_80 (Nat.le_of_ble_eq_true rfl) (Nat.le_of_ble_eq_true rfl)
    ·
      refine lv_tableIn (tgt := 81) (off := 80) hx hb dX1_told_1 (by rw [csx]; decide) (by rw [csx]; decide) (by rw [csx]; rfl) (by decide) ?_
      refine lv_aload_n hx hb dX1_told_81 rfl (lv_at hl 0 rfl) ?_
      refine k_gi (C := RX1) (T := TX1) (N := 11) (ci := 2) (v := r 47 i) S hG (fun w h => List.mem_cons_of_mem _ (List.mem_append_left _ (List.mem_append_right _ h))) (4000 + i) (hlv.ca hi) (kJ_ca hi9) rfl 6 (by decide) rfl (hts (.fieldLink RX1 25 "SwarmLine$Case" "mark" "I") (by decide +kernel)) rfl (rfl) dX1_told_82 ?_
      exact x_iret S.1 hr hlocks hG hL (by rw [csx]; rfl) (congrArg (fun z => some (Value.int z)) (by rw [csx]; rfl)) (congr (congrArg (kJ ce0 ad K.2.2.1 cI cB cO cR) (by rfl)) (by rfl)) dX1_told_85 (Nat.le_of_ble_eq_true rfl) (Nat.le_of_ble_eq_true rfl)
    ·
      refine lv_tableIn (tgt := 86) (off := 85) hx hb dX1_told_1 (by rw [csx]; decide) (by rw [csx]; decide) (by rw [csx]; rfl) (by decide) ?_
      refine lv_aload_n hx hb dX1_told_86 rfl (lv_at hl 0 rfl) ?_
      refine k_gi (C := RX1) (T := TX1) (N := 11) (ci := 2) (v := r 48 i) S hG (fun w h => List.mem_cons_of_mem _ (List.mem_append_left _ (List.mem_append_right _ h))) (4000 + i) (hlv.ca hi) (kJ_ca hi9) rfl 7 (by decide) rfl (hts (.fieldLink RX1 28 "SwarmLine$Case" "callsMelted" "I") (by decide +kernel)) rfl (rfl) dX1_told_87 ?_
      exact x_iret S.1 hr hlocks hG hL (by rw [csx]; rfl) (congrArg (fun z => some (Value.int z)) (by rw [csx]; rfl)) (congr (congrArg (kJ ce0 ad K.2.2.1 cI cB cO cR) (by rfl)) (by rfl)) dX1_told_90 (Nat.le_of_ble_eq_true rfl) (Nat.le_of_ble_eq_true rfl)
    ·
      refine lv_tableIn (tgt := 91) (off := 90) hx hb dX1_told_1 (by rw [csx]; decide) (by rw [csx]; decide) (by rw [csx]; rfl) (by decide) ?_
      refine lv_aload_n hx hb dX1_told_91 rfl (lv_at hl 0 rfl) ?_
      refine k_gi (C := RX1) (T := TX1) (N := 11) (ci := 2) (v := r 49 i) S hG (fun w h => List.mem_cons_of_mem _ (List.mem_append_left _ (List.mem_append_right _ h))) (4000 + i) (hlv.ca hi) (kJ_ca hi9) rfl 8 (by decide) rfl (hts (.fieldLink RX1 31 "SwarmLine$Case" "latest" "I") (by decide +kernel)) rfl (rfl) dX1_told_92 ?_
      exact x_iret S.1 hr hlocks hG hL (by rw [csx]; rfl) (congrArg (fun z => some (Value.int z)) (by rw [csx]; rfl)) (congr (congrArg (kJ ce0 ad K.2.2.1 cI cB cO cR) (by rfl)) (by rfl)) dX1_told_95 (Nat.le_of_ble_eq_true rfl) (Nat.le_of_ble_eq_true rfl)
    ·
      refine lv_tableIn (tgt := 96) (off := 95) hx hb dX1_told_1 (by rw [csx]; decide) (by rw [csx]; decide) (by rw [csx]; rfl) (by decide) ?_
      refine lv_aload_n hx hb dX1_told_96 rfl (lv_at hl 0 rfl) ?_
      refine k_gi (C := RX1) (T := TX1) (N := 11) (ci := 2) (v := r 50 i) S hG (fun w h => List.mem_cons_of_mem _ (List.mem_append_left _ (List.mem_append_right _ h))) (4000 + i) (hlv.ca hi) (kJ_ca hi9) rfl 9 (by decide) rfl (hts (.fieldLink RX1 34 "SwarmLine$Case" "keeper" "I") (by decide +kernel)) rfl (rfl) dX1_told_97 ?_
      exact x_iret S.1 hr hlocks hG hL (by rw [csx]; rfl) (congrArg (fun z => some (Value.int z)) (by rw [csx]; rfl)) (congr (congrArg (kJ ce0 ad K.2.2.1 cI cB cO cR) (by rfl)) (by rfl)) dX1_told_100 (Nat.le_of_ble_eq_true rfl) (Nat.le_of_ble_eq_true rfl)
    ·
      refine lv_tableIn (tgt := 101) (off := 100) hx hb dX1_told_1 (by rw [csx]; decide) (by rw [csx]; decide) (by rw [csx]; rfl) (by decide) ?_
      refine lv_aload_n hx hb dX1_told_101 rfl (lv_at hl 0 rfl) ?_
      refine k_gi (C := RX1) (T := TX1) (N := 11) (ci := 2) (v := r 51 i) S hG (fun w h => List.mem_cons_of_mem _ (List.mem_append_left _ (List.mem_append_right _ h))) (4000 + i) (hlv.ca hi) (kJ_ca hi9) rfl 10 (by decide) rfl (hts (.fieldLink RX1 37 "SwarmLine$Case" "swarm" "I") (by decide +kernel)) rfl (rfl) dX1_told_102 ?_
      exact x_iret S.1 hr hlocks hG hL (by rw [csx]; rfl) (congrArg (fun z => some (Value.int z)) (by rw [csx]; rfl)) (congr (congrArg (kJ ce0 ad K.2.2.1 cI cB cO cR) (by rfl)) (by rfl)) dX1_told_105 (Nat.le_of_ble_eq_true rfl) (Nat.le_of_ble_eq_true rfl)

set_option maxHeartbeats 4000000 in
set_option maxRecDepth 100000 in
theorem c_X9_swarmNumbered {l : Launch} {D : va_G} {cI cZ cB cO cR cJ : ClassId} {Hb : Heap} {K : kTx} {lv : Nat → Prop} {ad : Nat → Nat} {ce0 : Nat → va_E} (hst : l.stackTraces = false) (s : Nat → Int32) (r : Nat → Nat → Int32) (hlv : kL lv s) (x : Int32) (hb9 : (s 14).toInt ≤ 60) : xMet l D cI cZ cB cO cR cJ Hb K lv ad ce0 yX9_swarmNumbered wsX9_swarmNumbered 6 92 1 [.ref (ad 100), .int x] s r (xNm (s 14) x) (some (.ref (ad (2000 + Int32.toNatClampNeg x)))) s r s r := by
  refine vx_ofW (cc := cX9_swarmNumbered) (maxL := 2) (ret := (some (.object "SwarmLine$Swarm"))) (by decide) rfl ?_
  intro p0 e0 s0 m0 args below meth c0 s₁ B hml hout hv
  obtain ⟨rfl, hG, hK, hE⟩ := hv
  have hx := B.exec
  have hb := B.bytes
  have hr := B.returns
  have hts := atoms_spec (ws := wsX9_swarmNumbered) B.pre
  have hown : s0.vm.findClass RX9 = some m0.cls := findClass_of_methodNamed B.named
  have hlocks := B.notSynchronized
  have S : kX p0 m0 c0 cX9_swarmNumbered 2 s0 _ wsX9_swarmNumbered RX9 D (tyL cI cZ cB cO cR cJ) Hb K := ⟨⟨hx, hb, hml, hown, hts⟩, hK, hE⟩
  have hL : gL Hb [] := gL.nil
  have hH := hG.2.2.2.2
  have hl := lv_entry ([.ref (ad 100), .int x]) (n := 2) (Nat.le_of_ble_eq_true rfl)
  rw [lg_entry_eq]
  generalize (lg_sl ([.ref (ad 100), .int x]) ++ List.replicate (2 - (lg_sl ([.ref (ad 100), .int x])).length) Slot.unset).toArray = ls at hl ⊢
  have hl : lv_has ls 2 [(0, .ref (ad 100)), (1, .int x)] := hl
  refine lv_iload_n hx hb dX9_swarmNumbered_0 rfl (lv_at hl 1 rfl) ?_
  refine lv_if_lt (tgt := 15) hx hb dX9_swarmNumbered_1 (by decide) (fun c1 => ?_) (fun c1 => ?_)
  ·
    exact k_throwW (cls := "java/lang/IndexOutOfBoundsException") (text := "no such swarm") (i := 23) S hst hH hG hL (by decide +kernel) (hts (.classLink RX9 94 "java/lang/IndexOutOfBoundsException") (by decide +kernel)) (hts (.initialized "java/lang/IndexOutOfBoundsException") (by decide +kernel)) rfl (fun w h => List.mem_cons_of_mem _ (List.mem_append_right _ h)) (by decide +kernel) (by decide +kernel) (by decide +kernel) hl.1 dX9_swarmNumbered_15 dX9_swarmNumbered_18 dX9_swarmNumbered_19 dX9_swarmNumbered_22 dX9_swarmNumbered_25 hout (Nat.le_of_ble_eq_true rfl) (Nat.le_of_ble_eq_true rfl) (Nat.le_of_ble_eq_true rfl) (Nat.le_of_ble_eq_true rfl) hlocks (by unfold xNm; rw [if_pos (fIs_n c1)]) (congr (congrArg (kJ ce0 ad K.2.2.1 cI cB cO cR) (by rfl)) (by rfl)) (Nat.le_of_ble_eq_true rfl) (Nat.le_of_ble_eq_true rfl)
  ·
    refine lv_iload_n hx hb dX9_swarmNumbered_4 rfl (lv_at hl 1 rfl) ?_
    refine lv_aload_n hx hb dX9_swarmNumbered_5 rfl (lv_at hl 0 rfl) ?_
    refine k_ga (C := RX9) (T := TX9) (N := 14) (ci := 10) (v := .ref (ad 106)) S hG (fun w h => List.mem_cons_of_mem _ (List.mem_append_left _ (List.mem_append_left _ (List.mem_append_right _ h)))) 100 (hlv.f (by decide) (by decide)) rfl rfl 5 (by decide) rfl (hts (.fieldLink RX9 44 "SwarmLine" "swarms" "Ljava/util/ArrayList;") (by decide +kernel)) rfl dX9_swarmNumbered_6 ?_
    refine k_callV (n := 0) (As := []) (rest := [.int x]) (st1 := .int (s 14) :: [.int x]) (k := 106) (ci := 0) S hG hL (hlv.f (by decide) (by decide)) rfl rfl (c_size1 s r hlv   ) gX9_swarmNumbered_Jx4a65c_size_8abf5 rfl ⟨rfl, rfl⟩ (by decide +kernel) ⟨Nat.le_of_ble_eq_true rfl, Nat.le_of_ble_eq_true rfl⟩ rfl hl.1 rfl (Nat.le_of_ble_eq_true rfl) dX9_swarmNumbered_9 ⟨Nat.le_of_ble_eq_true rfl, Nat.le_of_ble_eq_true rfl⟩ (rfl) (fun H locs hG hL => ?_)
    refine lv_icmp_lt (tgt := 26) hx hb dX9_swarmNumbered_12 (by decide) (fun c12 => ?_) (fun c12 => ?_)
    ·
      refine lv_aload_n hx hb dX9_swarmNumbered_26 rfl (lv_at hl 0 rfl) ?_
      refine k_ga (C := RX9) (T := TX9) (N := 14) (ci := 10) (v := .ref (ad 106)) S hG (fun w h => List.mem_cons_of_mem _ (List.mem_append_left _ (List.mem_append_left _ (List.mem_append_right _ h)))) 100 (hlv.f (by decide) (by decide)) rfl rfl 5 (by decide) rfl (hts (.fieldLink RX9 44 "SwarmLine" "swarms" "Ljava/util/ArrayList;") (by decide +kernel)) rfl dX9_swarmNumbered_27 ?_
      refine lv_iload_n hx hb dX9_swarmNumbered_30 rfl (lv_at hl 1 rfl) ?_
      refine k_callV (n := 1) (As := [.int x]) (rest := []) (st1 := .ref (ad (2000 + Int32.toNatClampNeg x)) :: []) (k := 106) (ci := 0) S hG hL (hlv.f (by decide) (by decide)) rfl rfl (c_get1 s r hlv  x ((fIs_t c1 c12).2.1) ((fIs_t c1 c12).2.2) (hb9)) gX9_swarmNumbered_Jx4a65c_get_915e3 rfl ⟨rfl, rfl⟩ (by decide +kernel) ⟨Nat.le_of_ble_eq_true rfl, Nat.le_of_ble_eq_true rfl⟩ rfl hl.1 rfl (Nat.le_of_ble_eq_true rfl) dX9_swarmNumbered_31 ⟨Nat.le_of_ble_eq_true rfl, Nat.le_of_ble_eq_true rfl⟩ (rfl) (fun H locs hG hL => ?_)
      refine k_cast (C := RX6) (T := TX6) (N := 11) (ci := 7) S hG (2000 + Int32.toNatClampNeg x) (hlv.sw (ix_lt (fIs_t c1 c12).2.1 (fIs_t c1 c12).2.2)) (kJ_sw (ix_le (fIs_t c1 c12).2.1 (by have := (fIs_t c1 c12).2.2; omega))) rfl (hts (.classLink RX9 292 "SwarmLine$Swarm") (by decide +kernel)) dX9_swarmNumbered_34 ?_
      exact x_aret S.1 hr (Or.inl ⟨_, rfl⟩) hlocks hG hL (Or.inr ⟨_, rfl⟩) (by unfold xNm; rw [if_neg (fIs_t c1 c12).1]) (by rfl) (congr (congrArg (kJ ce0 ad K.2.2.1 cI cB cO cR) (by rfl)) (by rfl)) dX9_swarmNumbered_37 (Nat.le_of_ble_eq_true rfl) (Nat.le_of_ble_eq_true rfl)
    ·
      exact k_throwW (cls := "java/lang/IndexOutOfBoundsException") (text := "no such swarm") (i := 23) S hst hH hG hL (by decide +kernel) (hts (.classLink RX9 94 "java/lang/IndexOutOfBoundsException") (by decide +kernel)) (hts (.initialized "java/lang/IndexOutOfBoundsException") (by decide +kernel)) rfl (fun w h => List.mem_cons_of_mem _ (List.mem_append_right _ h)) (by decide +kernel) (by decide +kernel) (by decide +kernel) hl.1 dX9_swarmNumbered_15 dX9_swarmNumbered_18 dX9_swarmNumbered_19 dX9_swarmNumbered_22 dX9_swarmNumbered_25 hout (Nat.le_of_ble_eq_true rfl) (Nat.le_of_ble_eq_true rfl) (Nat.le_of_ble_eq_true rfl) (Nat.le_of_ble_eq_true rfl) hlocks (by unfold xNm; rw [if_pos (fIs_f c12)]) (congr (congrArg (kJ ce0 ad K.2.2.1 cI cB cO cR) (by rfl)) (by rfl)) (Nat.le_of_ble_eq_true rfl) (Nat.le_of_ble_eq_true rfl)

set_option maxHeartbeats 4000000 in
set_option maxRecDepth 100000 in
theorem c_X9_swarmNumbered_ok {l : Launch} {D : va_G} {cI cZ cB cO cR cJ : ClassId} {Hb : Heap} {K : kTx} {lv : Nat → Prop} {ad : Nat → Nat} {ce0 : Nat → va_E} (s : Nat → Int32) (r : Nat → Nat → Int32) (hlv : kL lv s) (x : Int32) (h0 : 0 ≤ x.toInt) (h1 : x.toInt < (s 14).toInt) (h2 : (s 14).toInt ≤ 60) : kMet l D cI cZ cB cO cR cJ Hb K lv ad ce0 yX9_swarmNumbered wsX9_swarmNumbered 3 64 [.ref (ad 100), .int x] s r (some (.ref (ad (2000 + Int32.toNatClampNeg x)))) s r := by
  refine Met.ofW (cc := cX9_swarmNumbered) (maxL := 2) (ret := (some (.object "SwarmLine$Swarm"))) (by decide) rfl ?_
  intro p0 e0 s0 m0 args below meth c0 s₁ B hml hv
  obtain ⟨rfl, hG, hK, hE⟩ := hv
  have hx := B.exec
  have hb := B.bytes
  have hr := B.returns
  have hts := atoms_spec (ws := wsX9_swarmNumbered) B.pre
  have hown : s0.vm.findClass RX9 = some m0.cls := findClass_of_methodNamed B.named
  have hlocks := B.notSynchronized
  have S : kX p0 m0 c0 cX9_swarmNumbered 2 s0 _ wsX9_swarmNumbered RX9 D (tyL cI cZ cB cO cR cJ) Hb K := ⟨⟨hx, hb, hml, hown, hts⟩, hK, hE⟩
  have hL : gL Hb [] := gL.nil
  have hH := hG.2.2.2.2
  have hl := lv_entry ([.ref (ad 100), .int x]) (n := 2) (Nat.le_of_ble_eq_true rfl)
  rw [lg_entry_eq]
  generalize (lg_sl ([.ref (ad 100), .int x]) ++ List.replicate (2 - (lg_sl ([.ref (ad 100), .int x])).length) Slot.unset).toArray = ls at hl ⊢
  have hl : lv_has ls 2 [(0, .ref (ad 100)), (1, .int x)] := hl
  refine lv_iload_n hx hb dX9_swarmNumbered_0 rfl (lv_at hl 1 rfl) ?_
  refine lv_if_lt (tgt := 15) hx hb dX9_swarmNumbered_1 (by decide) (fun c1 => absurd c1 (by rw [t_lt]; have z : (0 : Int32).toInt = 0 := rfl; omega)) (fun c1 => ?_)
  refine lv_iload_n hx hb dX9_swarmNumbered_4 rfl (lv_at hl 1 rfl) ?_
  refine lv_aload_n hx hb dX9_swarmNumbered_5 rfl (lv_at hl 0 rfl) ?_
  refine k_ga (C := RX9) (T := TX9) (N := 14) (ci := 10) (v := .ref (ad 106)) S hG (fun w h => List.mem_cons_of_mem _ (List.mem_append_left _ (List.mem_append_left _ (List.mem_append_right _ h)))) 100 (hlv.f (by decide) (by decide)) rfl rfl 5 (by decide) rfl (hts (.fieldLink RX9 44 "SwarmLine" "swarms" "Ljava/util/ArrayList;") (by decide +kernel)) rfl dX9_swarmNumbered_6 ?_
  refine k_callV (n := 0) (As := []) (rest := [.int x]) (st1 := .int (s 14) :: [.int x]) (k := 106) (ci := 0) S hG hL (hlv.f (by decide) (by decide)) rfl rfl (c_size1 s r hlv   ) gX9_swarmNumbered_Jx4a65c_size_8abf5 rfl ⟨rfl, rfl⟩ (by decide +kernel) ⟨Nat.le_of_ble_eq_true rfl, Nat.le_of_ble_eq_true rfl⟩ rfl hl.1 rfl (Nat.le_of_ble_eq_true rfl) dX9_swarmNumbered_9 ⟨Nat.zero_le _, Nat.zero_le _⟩ (rfl) (fun H locs hG hL => ?_)
  refine lv_icmp_lt (tgt := 26) hx hb dX9_swarmNumbered_12 (by decide) (fun c12 => ?_) (fun c12 => absurd c12 (by rw [t_lt]; exact fun z => z h1))
  refine lv_aload_n hx hb dX9_swarmNumbered_26 rfl (lv_at hl 0 rfl) ?_
  refine k_ga (C := RX9) (T := TX9) (N := 14) (ci := 10) (v := .ref (ad 106)) S hG (fun w h => List.mem_cons_of_mem _ (List.mem_append_left _ (List.mem_append_left _ (List.mem_append_right _ h)))) 100 (hlv.f (by decide) (by decide)) rfl rfl 5 (by decide) rfl (hts (.fieldLink RX9 44 "SwarmLine" "swarms" "Ljava/util/ArrayList;") (by decide +kernel)) rfl dX9_swarmNumbered_27 ?_
  refine lv_iload_n hx hb dX9_swarmNumbered_30 rfl (lv_at hl 1 rfl) ?_
  refine k_callV (n := 1) (As := [.int x]) (rest := []) (st1 := .ref (ad (2000 + Int32.toNatClampNeg x)) :: []) (k := 106) (ci := 0) S hG hL (hlv.f (by decide) (by decide)) rfl rfl (c_get1 s r hlv  x (h0) (h1) (h2)) gX9_swarmNumbered_Jx4a65c_get_915e3 rfl ⟨rfl, rfl⟩ (by decide +kernel) ⟨Nat.le_of_ble_eq_true rfl, Nat.le_of_ble_eq_true rfl⟩ rfl hl.1 rfl (Nat.le_of_ble_eq_true rfl) dX9_swarmNumbered_31 ⟨Nat.zero_le _, Nat.zero_le _⟩ (rfl) (fun H locs hG hL => ?_)
  refine k_cast (C := RX6) (T := TX6) (N := 11) (ci := 7) S hG (2000 + Int32.toNatClampNeg x) (hlv.sw (ix_lt h0 h1)) (kJ_sw (ix_le h0 (by omega))) rfl (hts (.classLink RX9 292 "SwarmLine$Swarm") (by decide +kernel)) dX9_swarmNumbered_34 ?_
  exact g_aret S.1 hr (Or.inl ⟨_, rfl⟩) hlocks hG hL (Or.inr ⟨_, rfl⟩) (by rfl) (congr (congrArg (kJ ce0 ad K.2.2.1 cI cB cO cR) (by rfl)) (by rfl)) dX9_swarmNumbered_37

set_option maxHeartbeats 4000000 in
set_option maxRecDepth 100000 in
theorem c_X9_keeperNumbered {l : Launch} {D : va_G} {cI cZ cB cO cR cJ : ClassId} {Hb : Heap} {K : kTx} {lv : Nat → Prop} {ad : Nat → Nat} {ce0 : Nat → va_E} (hst : l.stackTraces = false) (s : Nat → Int32) (r : Nat → Nat → Int32) (hlv : kL lv s) (x : Int32) (hb9 : (s 26).toInt ≤ 60) : xMet l D cI cZ cB cO cR cJ Hb K lv ad ce0 yX9_keeperNumbered wsX9_keeperNumbered 6 92 1 [.ref (ad 100), .int x] s r (xNm (s 26) x) (some (.ref (ad (3000 + Int32.toNatClampNeg x)))) s r s r := by
  refine vx_ofW (cc := cX9_keeperNumbered) (maxL := 2) (ret := (some (.object "SwarmLine$Keeper"))) (by decide) rfl ?_
  intro p0 e0 s0 m0 args below meth c0 s₁ B hml hout hv
  obtain ⟨rfl, hG, hK, hE⟩ := hv
  have hx := B.exec
  have hb := B.bytes
  have hr := B.returns
  have hts := atoms_spec (ws := wsX9_keeperNumbered) B.pre
  have hown : s0.vm.findClass RX9 = some m0.cls := findClass_of_methodNamed B.named
  have hlocks := B.notSynchronized
  have S : kX p0 m0 c0 cX9_keeperNumbered 2 s0 _ wsX9_keeperNumbered RX9 D (tyL cI cZ cB cO cR cJ) Hb K := ⟨⟨hx, hb, hml, hown, hts⟩, hK, hE⟩
  have hL : gL Hb [] := gL.nil
  have hH := hG.2.2.2.2
  have hl := lv_entry ([.ref (ad 100), .int x]) (n := 2) (Nat.le_of_ble_eq_true rfl)
  rw [lg_entry_eq]
  generalize (lg_sl ([.ref (ad 100), .int x]) ++ List.replicate (2 - (lg_sl ([.ref (ad 100), .int x])).length) Slot.unset).toArray = ls at hl ⊢
  have hl : lv_has ls 2 [(0, .ref (ad 100)), (1, .int x)] := hl
  refine lv_iload_n hx hb dX9_keeperNumbered_0 rfl (lv_at hl 1 rfl) ?_
  refine lv_if_lt (tgt := 15) hx hb dX9_keeperNumbered_1 (by decide) (fun c1 => ?_) (fun c1 => ?_)
  ·
    exact k_throwW (cls := "java/lang/IndexOutOfBoundsException") (text := "no such keeper") (i := 8) S hst hH hG hL (by decide +kernel) (hts (.classLink RX9 94 "java/lang/IndexOutOfBoundsException") (by decide +kernel)) (hts (.initialized "java/lang/IndexOutOfBoundsException") (by decide +kernel)) rfl (fun w h => List.mem_cons_of_mem _ (List.mem_append_right _ h)) (by decide +kernel) (by decide +kernel) (by decide +kernel) hl.1 dX9_keeperNumbered_15 dX9_keeperNumbered_18 dX9_keeperNumbered_19 dX9_keeperNumbered_22 dX9_keeperNumbered_25 hout (Nat.le_of_ble_eq_true rfl) (Nat.le_of_ble_eq_true rfl) (Nat.le_of_ble_eq_true rfl) (Nat.le_of_ble_eq_true rfl) hlocks (by unfold xNm; rw [if_pos (fIs_n c1)]) (congr (congrArg (kJ ce0 ad K.2.2.1 cI cB cO cR) (by rfl)) (by rfl)) (Nat.le_of_ble_eq_true rfl) (Nat.le_of_ble_eq_true rfl)
  ·
    refine lv_iload_n hx hb dX9_keeperNumbered_4 rfl (lv_at hl 1 rfl) ?_
    refine lv_aload_n hx hb dX9_keeperNumbered_5 rfl (lv_at hl 0 rfl) ?_
    refine k_ga (C := RX9) (T := TX9) (N := 14) (ci := 10) (v := .ref (ad 107)) S hG (fun w h => List.mem_cons_of_mem _ (List.mem_append_left _ (List.mem_append_left _ (List.mem_append_right _ h)))) 100 (hlv.f (by decide) (by decide)) rfl rfl 6 (by decide) rfl (hts (.fieldLink RX9 47 "SwarmLine" "keepers" "Ljava/util/ArrayList;") (by decide +kernel)) rfl dX9_keeperNumbered_6 ?_
    refine k_callV (n := 0) (As := []) (rest := [.int x]) (st1 := .int (s 26) :: [.int x]) (k := 107) (ci := 0) S hG hL (hlv.f (by decide) (by decide)) rfl rfl (c_size2 s r hlv   ) gX9_keeperNumbered_Jx4a65c_size_8abf5 rfl ⟨rfl, rfl⟩ (by decide +kernel) ⟨Nat.le_of_ble_eq_true rfl, Nat.le_of_ble_eq_true rfl⟩ rfl hl.1 rfl (Nat.le_of_ble_eq_true rfl) dX9_keeperNumbered_9 ⟨Nat.le_of_ble_eq_true rfl, Nat.le_of_ble_eq_true rfl⟩ (rfl) (fun H locs hG hL => ?_)
    refine lv_icmp_lt (tgt := 26) hx hb dX9_keeperNumbered_12 (by decide) (fun c12 => ?_) (fun c12 => ?_)
    ·
      refine lv_aload_n hx hb dX9_keeperNumbered_26 rfl (lv_at hl 0 rfl) ?_
      refine k_ga (C := RX9) (T := TX9) (N := 14) (ci := 10) (v := .ref (ad 107)) S hG (fun w h => List.mem_cons_of_mem _ (List.mem_append_left _ (List.mem_append_left _ (List.mem_append_right _ h)))) 100 (hlv.f (by decide) (by decide)) rfl rfl 6 (by decide) rfl (hts (.fieldLink RX9 47 "SwarmLine" "keepers" "Ljava/util/ArrayList;") (by decide +kernel)) rfl dX9_keeperNumbered_27 ?_
      refine lv_iload_n hx hb dX9_keeperNumbered_30 rfl (lv_at hl 1 rfl) ?_
      refine k_callV (n := 1) (As := [.int x]) (rest := []) (st1 := .ref (ad (3000 + Int32.toNatClampNeg x)) :: []) (k := 107) (ci := 0) S hG hL (hlv.f (by decide) (by decide)) rfl rfl (c_get2 s r hlv  x ((fIs_t c1 c12).2.1) ((fIs_t c1 c12).2.2) (hb9)) gX9_keeperNumbered_Jx4a65c_get_915e3 rfl ⟨rfl, rfl⟩ (by decide +kernel) ⟨Nat.le_of_ble_eq_true rfl, Nat.le_of_ble_eq_true rfl⟩ rfl hl.1 rfl (Nat.le_of_ble_eq_true rfl) dX9_keeperNumbered_31 ⟨Nat.le_of_ble_eq_true rfl, Nat.le_of_ble_eq_true rfl⟩ (rfl) (fun H locs hG hL => ?_)
      refine k_cast (C := RX4) (T := TX4) (N := 12) (ci := 5) S hG (3000 + Int32.toNatClampNeg x) (hlv.kp (ix_lt (fIs_t c1 c12).2.1 (fIs_t c1 c12).2.2)) (kJ_kp (ix_le (fIs_t c1 c12).2.1 (by have := (fIs_t c1 c12).2.2; omega))) rfl (hts (.classLink RX9 167 "SwarmLine$Keeper") (by decide +kernel)) dX9_keeperNumbered_34 ?_
      exact x_aret S.1 hr (Or.inl ⟨_, rfl⟩) hlocks hG hL (Or.inr ⟨_, rfl⟩) (by unfold xNm; rw [if_neg (fIs_t c1 c12).1]) (by rfl) (congr (congrArg (kJ ce0 ad K.2.2.1 cI cB cO cR) (by rfl)) (by rfl)) dX9_keeperNumbered_37 (Nat.le_of_ble_eq_true rfl) (Nat.le_of_ble_eq_true rfl)
    ·
      exact k_throwW (cls := "java/lang/IndexOutOfBoundsException") (text := "no such keeper") (i := 8) S hst hH hG hL (by decide +kernel) (hts (.classLink RX9 94 "java/lang/IndexOutOfBoundsException") (by decide +kernel)) (hts (.initialized "java/lang/IndexOutOfBoundsException") (by decide +kernel)) rfl (fun w h => List.mem_cons_of_mem _ (List.mem_append_right _ h)) (by decide +kernel) (by decide +kernel) (by decide +kernel) hl.1 dX9_keeperNumbered_15 dX9_keeperNumbered_18 dX9_keeperNumbered_19 dX9_keeperNumbered_22 dX9_keeperNumbered_25 hout (Nat.le_of_ble_eq_true rfl) (Nat.le_of_ble_eq_true rfl) (Nat.le_of_ble_eq_true rfl) (Nat.le_of_ble_eq_true rfl) hlocks (by unfold xNm; rw [if_pos (fIs_f c12)]) (congr (congrArg (kJ ce0 ad K.2.2.1 cI cB cO cR) (by rfl)) (by rfl)) (Nat.le_of_ble_eq_true rfl) (Nat.le_of_ble_eq_true rfl)

set_option maxHeartbeats 4000000 in
set_option maxRecDepth 100000 in
theorem c_X9_keeperNumbered_ok {l : Launch} {D : va_G} {cI cZ cB cO cR cJ : ClassId} {Hb : Heap} {K : kTx} {lv : Nat → Prop} {ad : Nat → Nat} {ce0 : Nat → va_E} (s : Nat → Int32) (r : Nat → Nat → Int32) (hlv : kL lv s) (x : Int32) (h0 : 0 ≤ x.toInt) (h1 : x.toInt < (s 26).toInt) (h2 : (s 26).toInt ≤ 60) : kMet l D cI cZ cB cO cR cJ Hb K lv ad ce0 yX9_keeperNumbered wsX9_keeperNumbered 3 64 [.ref (ad 100), .int x] s r (some (.ref (ad (3000 + Int32.toNatClampNeg x)))) s r := by
  refine Met.ofW (cc := cX9_keeperNumbered) (maxL := 2) (ret := (some (.object "SwarmLine$Keeper"))) (by decide) rfl ?_
  intro p0 e0 s0 m0 args below meth c0 s₁ B hml hv
  obtain ⟨rfl, hG, hK, hE⟩ := hv
  have hx := B.exec
  have hb := B.bytes
  have hr := B.returns
  have hts := atoms_spec (ws := wsX9_keeperNumbered) B.pre
  have hown : s0.vm.findClass RX9 = some m0.cls := findClass_of_methodNamed B.named
  have hlocks := B.notSynchronized
  have S : kX p0 m0 c0 cX9_keeperNumbered 2 s0 _ wsX9_keeperNumbered RX9 D (tyL cI cZ cB cO cR cJ) Hb K := ⟨⟨hx, hb, hml, hown, hts⟩, hK, hE⟩
  have hL : gL Hb [] := gL.nil
  have hH := hG.2.2.2.2
  have hl := lv_entry ([.ref (ad 100), .int x]) (n := 2) (Nat.le_of_ble_eq_true rfl)
  rw [lg_entry_eq]
  generalize (lg_sl ([.ref (ad 100), .int x]) ++ List.replicate (2 - (lg_sl ([.ref (ad 100), .int x])).length) Slot.unset).toArray = ls at hl ⊢
  have hl : lv_has ls 2 [(0, .ref (ad 100)), (1, .int x)] := hl
  refine lv_iload_n hx hb dX9_keeperNumbered_0 rfl (lv_at hl 1 rfl) ?_
  refine lv_if_lt (tgt := 15) hx hb dX9_keeperNumbered_1 (by decide) (fun c1 => absurd c1 (by rw [t_lt]; have z : (0 : Int32).toInt = 0 := rfl; omega)) (fun c1 => ?_)
  refine lv_iload_n hx hb dX9_keeperNumbered_4 rfl (lv_at hl 1 rfl) ?_
  refine lv_aload_n hx hb dX9_keeperNumbered_5 rfl (lv_at hl 0 rfl) ?_
  refine k_ga (C := RX9) (T := TX9) (N := 14) (ci := 10) (v := .ref (ad 107)) S hG (fun w h => List.mem_cons_of_mem _ (List.mem_append_left _ (List.mem_append_left _ (List.mem_append_right _ h)))) 100 (hlv.f (by decide) (by decide)) rfl rfl 6 (by decide) rfl (hts (.fieldLink RX9 47 "SwarmLine" "keepers" "Ljava/util/ArrayList;") (by decide +kernel)) rfl dX9_keeperNumbered_6 ?_
  refine k_callV (n := 0) (As := []) (rest := [.int x]) (st1 := .int (s 26) :: [.int x]) (k := 107) (ci := 0) S hG hL (hlv.f (by decide) (by decide)) rfl rfl (c_size2 s r hlv   ) gX9_keeperNumbered_Jx4a65c_size_8abf5 rfl ⟨rfl, rfl⟩ (by decide +kernel) ⟨Nat.le_of_ble_eq_true rfl, Nat.le_of_ble_eq_true rfl⟩ rfl hl.1 rfl (Nat.le_of_ble_eq_true rfl) dX9_keeperNumbered_9 ⟨Nat.zero_le _, Nat.zero_le _⟩ (rfl) (fun H locs hG hL => ?_)
  refine lv_icmp_lt (tgt := 26) hx hb dX9_keeperNumbered_12 (by decide) (fun c12 => ?_) (fun c12 => absurd c12 (by rw [t_lt]; exact fun z => z h1))
  refine lv_aload_n hx hb dX9_keeperNumbered_26 rfl (lv_at hl 0 rfl) ?_
  refine k_ga (C := RX9) (T := TX9) (N := 14) (ci := 10) (v := .ref (ad 107)) S hG (fun w h => List.mem_cons_of_mem _ (List.mem_append_left _ (List.mem_append_left _ (List.mem_append_right _ h)))) 100 (hlv.f (by decide) (by decide)) rfl rfl 6 (by decide) rfl (hts (.fieldLink RX9 47 "SwarmLine" "keepers" "Ljava/util/ArrayList;") (by decide +kernel)) rfl dX9_keeperNumbered_27 ?_
  refine lv_iload_n hx hb dX9_keeperNumbered_30 rfl (lv_at hl 1 rfl) ?_
  refine k_callV (n := 1) (As := [.int x]) (rest := []) (st1 := .ref (ad (3000 + Int32.toNatClampNeg x)) :: []) (k := 107) (ci := 0) S hG hL (hlv.f (by decide) (by decide)) rfl rfl (c_get2 s r hlv  x (h0) (h1) (h2)) gX9_keeperNumbered_Jx4a65c_get_915e3 rfl ⟨rfl, rfl⟩ (by decide +kernel) ⟨Nat.le_of_ble_eq_true rfl, Nat.le_of_ble_eq_true rfl⟩ rfl hl.1 rfl (Nat.le_of_ble_eq_true rfl) dX9_keeperNumbered_31 ⟨Nat.zero_le _, Nat.zero_le _⟩ (rfl) (fun H locs hG hL => ?_)
  refine k_cast (C := RX4) (T := TX4) (N := 12) (ci := 5) S hG (3000 + Int32.toNatClampNeg x) (hlv.kp (ix_lt h0 h1)) (kJ_kp (ix_le h0 (by omega))) rfl (hts (.classLink RX9 167 "SwarmLine$Keeper") (by decide +kernel)) dX9_keeperNumbered_34 ?_
  exact g_aret S.1 hr (Or.inl ⟨_, rfl⟩) hlocks hG hL (Or.inr ⟨_, rfl⟩) (by rfl) (congr (congrArg (kJ ce0 ad K.2.2.1 cI cB cO cR) (by rfl)) (by rfl)) dX9_keeperNumbered_37

set_option maxHeartbeats 4000000 in
set_option maxRecDepth 100000 in
theorem c_X9_caseNumbered {l : Launch} {D : va_G} {cI cZ cB cO cR cJ : ClassId} {Hb : Heap} {K : kTx} {lv : Nat → Prop} {ad : Nat → Nat} {ce0 : Nat → va_E} (hst : l.stackTraces = false) (s : Nat → Int32) (r : Nat → Nat → Int32) (hlv : kL lv s) (x : Int32) (hb9 : (s 39).toInt ≤ 60) : xMet l D cI cZ cB cO cR cJ Hb K lv ad ce0 yX9_caseNumbered wsX9_caseNumbered 6 92 1 [.ref (ad 100), .int x] s r (xNm (s 39) x) (some (.ref (ad (4000 + Int32.toNatClampNeg x)))) s r s r := by
  refine vx_ofW (cc := cX9_caseNumbered) (maxL := 2) (ret := (some (.object "SwarmLine$Case"))) (by decide) rfl ?_
  intro p0 e0 s0 m0 args below meth c0 s₁ B hml hout hv
  obtain ⟨rfl, hG, hK, hE⟩ := hv
  have hx := B.exec
  have hb := B.bytes
  have hr := B.returns
  have hts := atoms_spec (ws := wsX9_caseNumbered) B.pre
  have hown : s0.vm.findClass RX9 = some m0.cls := findClass_of_methodNamed B.named
  have hlocks := B.notSynchronized
  have S : kX p0 m0 c0 cX9_caseNumbered 2 s0 _ wsX9_caseNumbered RX9 D (tyL cI cZ cB cO cR cJ) Hb K := ⟨⟨hx, hb, hml, hown, hts⟩, hK, hE⟩
  have hL : gL Hb [] := gL.nil
  have hH := hG.2.2.2.2
  have hl := lv_entry ([.ref (ad 100), .int x]) (n := 2) (Nat.le_of_ble_eq_true rfl)
  rw [lg_entry_eq]
  generalize (lg_sl ([.ref (ad 100), .int x]) ++ List.replicate (2 - (lg_sl ([.ref (ad 100), .int x])).length) Slot.unset).toArray = ls at hl ⊢
  have hl : lv_has ls 2 [(0, .ref (ad 100)), (1, .int x)] := hl
  refine lv_iload_n hx hb dX9_caseNumbered_0 rfl (lv_at hl 1 rfl) ?_
  refine lv_if_lt (tgt := 15) hx hb dX9_caseNumbered_1 (by decide) (fun c1 => ?_) (fun c1 => ?_)
  ·
    exact k_throwW (cls := "java/lang/IndexOutOfBoundsException") (text := "no such case") (i := 11) S hst hH hG hL (by decide +kernel) (hts (.classLink RX9 94 "java/lang/IndexOutOfBoundsException") (by decide +kernel)) (hts (.initialized "java/lang/IndexOutOfBoundsException") (by decide +kernel)) rfl (fun w h => List.mem_cons_of_mem _ (List.mem_append_right _ h)) (by decide +kernel) (by decide +kernel) (by decide +kernel) hl.1 dX9_caseNumbered_15 dX9_caseNumbered_18 dX9_caseNumbered_19 dX9_caseNumbered_22 dX9_caseNumbered_25 hout (Nat.le_of_ble_eq_true rfl) (Nat.le_of_ble_eq_true rfl) (Nat.le_of_ble_eq_true rfl) (Nat.le_of_ble_eq_true rfl) hlocks (by unfold xNm; rw [if_pos (fIs_n c1)]) (congr (congrArg (kJ ce0 ad K.2.2.1 cI cB cO cR) (by rfl)) (by rfl)) (Nat.le_of_ble_eq_true rfl) (Nat.le_of_ble_eq_true rfl)
  ·
    refine lv_iload_n hx hb dX9_caseNumbered_4 rfl (lv_at hl 1 rfl) ?_
    refine lv_aload_n hx hb dX9_caseNumbered_5 rfl (lv_at hl 0 rfl) ?_
    refine k_ga (C := RX9) (T := TX9) (N := 14) (ci := 10) (v := .ref (ad 108)) S hG (fun w h => List.mem_cons_of_mem _ (List.mem_append_left _ (List.mem_append_left _ (List.mem_append_right _ h)))) 100 (hlv.f (by decide) (by decide)) rfl rfl 7 (by decide) rfl (hts (.fieldLink RX9 50 "SwarmLine" "cases" "Ljava/util/ArrayList;") (by decide +kernel)) rfl dX9_caseNumbered_6 ?_
    refine k_callV (n := 0) (As := []) (rest := [.int x]) (st1 := .int (s 39) :: [.int x]) (k := 108) (ci := 0) S hG hL (hlv.f (by decide) (by decide)) rfl rfl (c_size3 s r hlv   ) gX9_caseNumbered_Jx4a65c_size_8abf5 rfl ⟨rfl, rfl⟩ (by decide +kernel) ⟨Nat.le_of_ble_eq_true rfl, Nat.le_of_ble_eq_true rfl⟩ rfl hl.1 rfl (Nat.le_of_ble_eq_true rfl) dX9_caseNumbered_9 ⟨Nat.le_of_ble_eq_true rfl, Nat.le_of_ble_eq_true rfl⟩ (rfl) (fun H locs hG hL => ?_)
    refine lv_icmp_lt (tgt := 26) hx hb dX9_caseNumbered_12 (by decide) (fun c12 => ?_) (fun c12 => ?_)
    ·
      refine lv_aload_n hx hb dX9_caseNumbered_26 rfl (lv_at hl 0 rfl) ?_
      refine k_ga (C := RX9) (T := TX9) (N := 14) (ci := 10) (v := .ref (ad 108)) S hG (fun w h => List.mem_cons_of_mem _ (List.mem_append_left _ (List.mem_append_left _ (List.mem_append_right _ h)))) 100 (hlv.f (by decide) (by decide)) rfl rfl 7 (by decide) rfl (hts (.fieldLink RX9 50 "SwarmLine" "cases" "Ljava/util/ArrayList;") (by decide +kernel)) rfl dX9_caseNumbered_27 ?_
      refine lv_iload_n hx hb dX9_caseNumbered_30 rfl (lv_at hl 1 rfl) ?_
      refine k_callV (n := 1) (As := [.int x]) (rest := []) (st1 := .ref (ad (4000 + Int32.toNatClampNeg x)) :: []) (k := 108) (ci := 0) S hG hL (hlv.f (by decide) (by decide)) rfl rfl (c_get3 s r hlv  x ((fIs_t c1 c12).2.1) ((fIs_t c1 c12).2.2) (hb9)) gX9_caseNumbered_Jx4a65c_get_915e3 rfl ⟨rfl, rfl⟩ (by decide +kernel) ⟨Nat.le_of_ble_eq_true rfl, Nat.le_of_ble_eq_true rfl⟩ rfl hl.1 rfl (Nat.le_of_ble_eq_true rfl) dX9_caseNumbered_31 ⟨Nat.le_of_ble_eq_true rfl, Nat.le_of_ble_eq_true rfl⟩ (rfl) (fun H locs hG hL => ?_)
      refine k_cast (C := RX1) (T := TX1) (N := 11) (ci := 2) S hG (4000 + Int32.toNatClampNeg x) (hlv.ca (ix_lt (fIs_t c1 c12).2.1 (fIs_t c1 c12).2.2)) (kJ_ca (ix_le (fIs_t c1 c12).2.1 (by have := (fIs_t c1 c12).2.2; omega))) rfl (hts (.classLink RX9 209 "SwarmLine$Case") (by decide +kernel)) dX9_caseNumbered_34 ?_
      exact x_aret S.1 hr (Or.inl ⟨_, rfl⟩) hlocks hG hL (Or.inr ⟨_, rfl⟩) (by unfold xNm; rw [if_neg (fIs_t c1 c12).1]) (by rfl) (congr (congrArg (kJ ce0 ad K.2.2.1 cI cB cO cR) (by rfl)) (by rfl)) dX9_caseNumbered_37 (Nat.le_of_ble_eq_true rfl) (Nat.le_of_ble_eq_true rfl)
    ·
      exact k_throwW (cls := "java/lang/IndexOutOfBoundsException") (text := "no such case") (i := 11) S hst hH hG hL (by decide +kernel) (hts (.classLink RX9 94 "java/lang/IndexOutOfBoundsException") (by decide +kernel)) (hts (.initialized "java/lang/IndexOutOfBoundsException") (by decide +kernel)) rfl (fun w h => List.mem_cons_of_mem _ (List.mem_append_right _ h)) (by decide +kernel) (by decide +kernel) (by decide +kernel) hl.1 dX9_caseNumbered_15 dX9_caseNumbered_18 dX9_caseNumbered_19 dX9_caseNumbered_22 dX9_caseNumbered_25 hout (Nat.le_of_ble_eq_true rfl) (Nat.le_of_ble_eq_true rfl) (Nat.le_of_ble_eq_true rfl) (Nat.le_of_ble_eq_true rfl) hlocks (by unfold xNm; rw [if_pos (fIs_f c12)]) (congr (congrArg (kJ ce0 ad K.2.2.1 cI cB cO cR) (by rfl)) (by rfl)) (Nat.le_of_ble_eq_true rfl) (Nat.le_of_ble_eq_true rfl)

set_option maxHeartbeats 4000000 in
set_option maxRecDepth 100000 in
theorem c_X9_caseNumbered_ok {l : Launch} {D : va_G} {cI cZ cB cO cR cJ : ClassId} {Hb : Heap} {K : kTx} {lv : Nat → Prop} {ad : Nat → Nat} {ce0 : Nat → va_E} (s : Nat → Int32) (r : Nat → Nat → Int32) (hlv : kL lv s) (x : Int32) (h0 : 0 ≤ x.toInt) (h1 : x.toInt < (s 39).toInt) (h2 : (s 39).toInt ≤ 60) : kMet l D cI cZ cB cO cR cJ Hb K lv ad ce0 yX9_caseNumbered wsX9_caseNumbered 3 64 [.ref (ad 100), .int x] s r (some (.ref (ad (4000 + Int32.toNatClampNeg x)))) s r := by
  refine Met.ofW (cc := cX9_caseNumbered) (maxL := 2) (ret := (some (.object "SwarmLine$Case"))) (by decide) rfl ?_
  intro p0 e0 s0 m0 args below meth c0 s₁ B hml hv
  obtain ⟨rfl, hG, hK, hE⟩ := hv
  have hx := B.exec
  have hb := B.bytes
  have hr := B.returns
  have hts := atoms_spec (ws := wsX9_caseNumbered) B.pre
  have hown : s0.vm.findClass RX9 = some m0.cls := findClass_of_methodNamed B.named
  have hlocks := B.notSynchronized
  have S : kX p0 m0 c0 cX9_caseNumbered 2 s0 _ wsX9_caseNumbered RX9 D (tyL cI cZ cB cO cR cJ) Hb K := ⟨⟨hx, hb, hml, hown, hts⟩, hK, hE⟩
  have hL : gL Hb [] := gL.nil
  have hH := hG.2.2.2.2
  have hl := lv_entry ([.ref (ad 100), .int x]) (n := 2) (Nat.le_of_ble_eq_true rfl)
  rw [lg_entry_eq]
  generalize (lg_sl ([.ref (ad 100), .int x]) ++ List.replicate (2 - (lg_sl ([.ref (ad 100), .int x])).length) Slot.unset).toArray = ls at hl ⊢
  have hl : lv_has ls 2 [(0, .ref (ad 100)), (1, .int x)] := hl
  refine lv_iload_n hx hb dX9_caseNumbered_0 rfl (lv_at hl 1 rfl) ?_
  refine lv_if_lt (tgt := 15) hx hb dX9_caseNumbered_1 (by decide) (fun c1 => absurd c1 (by rw [t_lt]; have z : (0 : Int32).toInt = 0 := rfl; omega)) (fun c1 => ?_)
  refine lv_iload_n hx hb dX9_caseNumbered_4 rfl (lv_at hl 1 rfl) ?_
  refine lv_aload_n hx hb dX9_caseNumbered_5 rfl (lv_at hl 0 rfl) ?_
  refine k_ga (C := RX9) (T := TX9) (N := 14) (ci := 10) (v := .ref (ad 108)) S hG (fun w h => List.mem_cons_of_mem _ (List.mem_append_left _ (List.mem_append_left _ (List.mem_append_right _ h)))) 100 (hlv.f (by decide) (by decide)) rfl rfl 7 (by decide) rfl (hts (.fieldLink RX9 50 "SwarmLine" "cases" "Ljava/util/ArrayList;") (by decide +kernel)) rfl dX9_caseNumbered_6 ?_
  refine k_callV (n := 0) (As := []) (rest := [.int x]) (st1 := .int (s 39) :: [.int x]) (k := 108) (ci := 0) S hG hL (hlv.f (by decide) (by decide)) rfl rfl (c_size3 s r hlv   ) gX9_caseNumbered_Jx4a65c_size_8abf5 rfl ⟨rfl, rfl⟩ (by decide +kernel) ⟨Nat.le_of_ble_eq_true rfl, Nat.le_of_ble_eq_true rfl⟩ rfl hl.1 rfl (Nat.le_of_ble_eq_true rfl) dX9_caseNumbered_9 ⟨Nat.zero_le _, Nat.zero_le _⟩ (rfl) (fun H locs hG hL => ?_)
  refine lv_icmp_lt (tgt := 26) hx hb dX9_caseNumbered_12 (by decide) (fun c12 => ?_) (fun c12 => absurd c12 (by rw [t_lt]; exact fun z => z h1))
  refine lv_aload_n hx hb dX9_caseNumbered_26 rfl (lv_at hl 0 rfl) ?_
  refine k_ga (C := RX9) (T := TX9) (N := 14) (ci := 10) (v := .ref (ad 108)) S hG (fun w h => List.mem_cons_of_mem _ (List.mem_append_left _ (List.mem_append_left _ (List.mem_append_right _ h)))) 100 (hlv.f (by decide) (by decide)) rfl rfl 7 (by decide) rfl (hts (.fieldLink RX9 50 "SwarmLine" "cases" "Ljava/util/ArrayList;") (by decide +kernel)) rfl dX9_caseNumbered_27 ?_
  refine lv_iload_n hx hb dX9_caseNumbered_30 rfl (lv_at hl 1 rfl) ?_
  refine k_callV (n := 1) (As := [.int x]) (rest := []) (st1 := .ref (ad (4000 + Int32.toNatClampNeg x)) :: []) (k := 108) (ci := 0) S hG hL (hlv.f (by decide) (by decide)) rfl rfl (c_get3 s r hlv  x (h0) (h1) (h2)) gX9_caseNumbered_Jx4a65c_get_915e3 rfl ⟨rfl, rfl⟩ (by decide +kernel) ⟨Nat.le_of_ble_eq_true rfl, Nat.le_of_ble_eq_true rfl⟩ rfl hl.1 rfl (Nat.le_of_ble_eq_true rfl) dX9_caseNumbered_31 ⟨Nat.zero_le _, Nat.zero_le _⟩ (rfl) (fun H locs hG hL => ?_)
  refine k_cast (C := RX1) (T := TX1) (N := 11) (ci := 2) S hG (4000 + Int32.toNatClampNeg x) (hlv.ca (ix_lt h0 h1)) (kJ_ca (ix_le h0 (by omega))) rfl (hts (.classLink RX9 209 "SwarmLine$Case") (by decide +kernel)) dX9_caseNumbered_34 ?_
  exact g_aret S.1 hr (Or.inl ⟨_, rfl⟩) hlocks hG hL (Or.inr ⟨_, rfl⟩) (by rfl) (congr (congrArg (kJ ce0 ad K.2.2.1 cI cB cO cR) (by rfl)) (by rfl)) dX9_caseNumbered_37
