/-! the lists' arrays grow -/
def aRf (cO : ClassId) (N : Nat) (f : Nat → Option Nat) : va_E := .inl (cO, N, .inr (.inr (.inr (.inr f))))
def lOb (mc : Int32) (ea : Nat) (n : Int32) : va_E := .inr (0, [.int mc, .ref ea, .int n])
section TLN
variable {p : Program} {l : Launch} {e : Env} {R : Room} {s : State} {m : MethodId} {args : Array Value} {below : List Frame} {meth : Method} {c : Code} {H : Heap} {locs : List Loc} {cells slots : Nat} {Q : State → Prop}
variable {cc : ByteArray} {pc nL : Nat} {ls : Array Slot} {rest : List Value} {D : va_G} {tys : List (ClassId × FieldType)} {Hb : Heap} {K : kTx} {lv : Nat → Prop} {ad : Nat → Nat} {ce : Nat → va_E} {Ts : List Cond} {own : String}
theorem k_tlenO (S : kX p m c cc nL s args Ts own D tys Hb K) (hH : ∀ q : Nat, q < Hb.size → s.heap[q]? = Hb[q]?) (hG : gW D Hb lv ad ce H) (hL : gL Hb locs) {t N : Nat} {f : Nat → Value} {ty : FieldType} (hX : va_T ty t N f (gA Hb) s Hb) (hdg : decode cc pc = .ok (.arraylength, 1))
    (kk : W p l e R s m args below meth c H locs cells slots Q (F0 m (pc + 1) ls (.int (nI N) :: rest))) : W p l e R s m args below meth c H locs cells slots Q (F0 m pc ls (.ref t :: rest)) := by
  intro T hT X
  exact va_tlen S.1.1 S.1.2.1 (hX.kept (fun a ha _ => hH a ha)) (k_same X hT hH hG hL) rfl hdg kk T hT X
end TLN
theorem va_up_sw {α : Type} (f : Nat → α) {k j : Nat} (h : ¬ k = j) (a b : α) : va_up (va_up f k a) j b = va_up (va_up f j b) k a := by
  funext i
  by_cases e1 : i = k
  · subst e1; rw [va_up_ne _ _ h, va_up_self, va_up_self]
  · by_cases e2 : i = j
    · subst e2; rw [va_up_self, va_up_ne _ _ e1, va_up_self]
    · rw [va_up_ne _ _ e2, va_up_ne _ _ e1, va_up_ne _ _ e1, va_up_ne _ _ e2]
theorem nNeg {n : Nat} (h : n ≤ 5000) : ¬ nI n < 0 := by rw [t_lt, nI_toInt (by omega), t_0]; omega
theorem minN {a b : Nat} (h : a ≤ b) (hb : b ≤ 5000) : (if nI b < nI a then nI b else nI a) = nI a := by
  rw [if_neg]
  rw [t_lt, nI_toInt (by omega), nI_toInt (by omega)]; omega
def g5 (n : Nat) : Prop := n = 10 ∨ n = 15 ∨ n = 22 ∨ n = 33 ∨ n = 49
theorem g5_b {n : Nat} (h : g5 n) : 10 ≤ n ∧ n ≤ 49 ∧ n < gCap (n + 1) ∧ gCap (n + 1) ≤ 73 ∧ gCap n = n := by
  unfold g5 at h
  rcases h with h | h | h | h | h <;> subst h <;> decide
theorem g5_l {n : Nat} (h : g5 n) : nI n + (if nI n + 1 - nI n < nI n >>> ((1 : Int32) &&& 31) then nI n >>> ((1 : Int32) &&& 31) else nI n + 1 - nI n) = nI (gCap (n + 1)) := by
  unfold g5 at h
  rcases h with h | h | h | h | h <;> subst h <;> decide
theorem va_cpy_0 (f : Nat → Option Nat) (n : Nat) : va_cpy f (fun _ => none) 0 0 n = fun i => if i < n then f i else none := by
  funext i
  unfold va_cpy
  by_cases h : i < n
  · rw [if_pos ⟨Nat.zero_le _, by omega⟩, if_pos h]; simp
  · rw [if_neg (by omega), if_neg h]

set_option maxHeartbeats 400000 in
set_option maxRecDepth 100000 in
theorem c_J8_newLength_cabcc {l : Launch} (a : Int32) (b : Int32) (c : Int32) (h0 : 0 < (a + (if b < c then c else b)).toInt) (h1 : (a + (if b < c then c else b)).toInt ≤ 5000) : pMet l yJ8_newLength_cabcc wsJ8_newLength_cabcc 1 24 [.int a, .int b, .int c] (some (.int (a + (if b < c then c else b)))) := by
  refine Met.ofW (cc := cJ8_newLength_cabcc) (maxL := 4) (ret := (some .int)) (by decide) rfl ?_
  intro p0 e0 s0 m0 args below meth c0 s₁ B hml hv
  obtain ⟨rfl, -⟩ := hv
  have hx := B.exec
  have hb := B.bytes
  have hr := B.returns
  have hts := atoms_spec (ws := wsJ8_newLength_cabcc) B.pre
  have hown : s0.vm.findClass RJ8 = some m0.cls := findClass_of_methodNamed B.named
  have hlocks := B.notSynchronized
  have S : CallFix p0 m0 c0 cJ8_newLength_cabcc 4 s0 _ wsJ8_newLength_cabcc RJ8 := ⟨hx, hb, hml, hown, hts⟩
  have hl := lv_entry ([.int a, .int b, .int c]) (n := 4) (Nat.le_of_ble_eq_true rfl)
  rw [lg_entry_eq]
  generalize (lg_sl ([.int a, .int b, .int c]) ++ List.replicate (4 - (lg_sl ([.int a, .int b, .int c])).length) Slot.unset).toArray = ls at hl ⊢
  have hl : lv_has ls 4 [(0, .int a), (1, .int b), (2, .int c)] := hl
  refine lv_iload_n hx hb dJ8_newLength_cabcc_0 rfl (lv_at hl 0 rfl) ?_
  refine lv_iload_n hx hb dJ8_newLength_cabcc_1 rfl (lv_at hl 1 rfl) ?_
  refine lv_iload_n hx hb dJ8_newLength_cabcc_2 rfl (lv_at hl 2 rfl) ?_
  refine va_mmax hx hb (hml.trans hl.1.symm) hown (hts (.methodLink RJ8 194 Lib.Math.max.name) (by decide +kernel)) (hts (.static Lib.Math.max.name) (by decide +kernel)) (hts (.initialized "java/lang/Math") (by decide +kernel)) (hts (.code Lib.Math.max.name Lib.Math.max.code 2 (some .int)) (by decide +kernel)) (Nat.le_of_ble_eq_true rfl) (Nat.le_of_ble_eq_true rfl) (Nat.zero_le _) (Nat.zero_le _) dJ8_newLength_cabcc_3 ?_
  refine lv_iadd hx hb dJ8_newLength_cabcc_6 ?_
  refine lv_istore_n (lv' := [(3, .int (a + (if b < c then c else b))), (0, .int a), (1, .int b), (2, .int c)]) hx hb dJ8_newLength_cabcc_7 rfl hl (by decide) rfl (fun ls hl => ?_)
  refine lv_iconst (v := 0) hx hb dJ8_newLength_cabcc_8 (by decide) ?_
  refine lv_iload_n hx hb dJ8_newLength_cabcc_9 rfl (lv_at hl 0 rfl) ?_
  refine lv_icmp_ge (tgt := 21) hx hb dJ8_newLength_cabcc_10 (by decide) (fun c10 => absurd c10 (by { rw [t_le, t_0]; omega })) (fun c10 => ?_)
  refine lv_iload_n hx hb dJ8_newLength_cabcc_13 rfl (lv_at hl 0 rfl) ?_
  refine lv_ldc (v := 2147483639) hx hb hown (hts (.constant RJ8 200 2147483639) (by decide +kernel)) dJ8_newLength_cabcc_14 ?_
  refine lv_icmp_gt (tgt := 21) hx hb dJ8_newLength_cabcc_16 (by decide) (fun c16 => absurd c16 (by { rw [t_lt]; have z : (2147483639 : Int32).toInt = 2147483639 := rfl; omega })) (fun c16 => ?_)
  refine lv_iload_n hx hb dJ8_newLength_cabcc_19 rfl (lv_at hl 0 rfl) ?_
  exact p_iret S hr hlocks (congrArg (fun z => some (Value.int z)) (by rfl)) dJ8_newLength_cabcc_20

set_option maxHeartbeats 1000000 in
set_option maxRecDepth 100000 in
theorem c_copyOf3 {l : Launch} {D : va_G} {cI cZ cB cO cR cJ : ClassId} {Hb : Heap} {K : kTx} {lv : Nat → Prop} {ad : Nat → Nat} {ce : Nat → va_E} (k k' N0 N' : Nat) (hk : lv k) (hk' : ¬ lv k') (hN : N0 ≤ N') (hN' : N' ≤ 73) {f : Nat → Option Nat} (he : ce k = aRf cO N0 f) {ci : Nat} {q : vw_C} (hc : vwCl[ci]? = some q) (hca : (q.1, "java/lang/Object") ∈ kNc) (hel : ∀ i y, i < N0 → f i = some y → ∃ ko fs, lv ko ∧ y = ad ko ∧ ce ko = .inr (ci, fs)) : Met l yJ7_copyOf_6403c wsJ7_copyOf_6403c { frames := 1, cells := 1, slots := 73, locals := 40 } (va_Pc [.ref (ad k), .int (nI N'), .ref K.2.2.2] (kP D (tyL cI cZ cB cO cR cJ) Hb K lv ad ce)) (nQ D Hb lv ad k' (fun ad' => some (.ref (ad' k'))) (fun _ => va_up ce k' (aRf cO N' (fun i => if i < N0 then f i else none)))) 1 73 (gA Hb) := by
  refine Met.ofW (cc := cJ7_copyOf_6403c) (maxL := 4) (ret := (some (.array (.object "java/lang/Object")))) (by decide) rfl ?_
  intro p0 e0 s0 m0 args below meth c0 s₁ B hml hv
  obtain ⟨rfl, hG, hK, hE⟩ := hv
  have hx := B.exec
  have hb := B.bytes
  have hr := B.returns
  have hts := atoms_spec (ws := wsJ7_copyOf_6403c) B.pre
  have hown : s0.vm.findClass RJ7 = some m0.cls := findClass_of_methodNamed B.named
  have hlocks := B.notSynchronized
  have S : kX p0 m0 c0 cJ7_copyOf_6403c 4 s0 _ wsJ7_copyOf_6403c RJ7 D (tyL cI cZ cB cO cR cJ) Hb K := ⟨⟨hx, hb, hml, hown, hts⟩, hK, hE⟩
  obtain ⟨-, -, hCa, -, -, -, -, -, -, hEm, hEa, hMi, hAO, hDc, -⟩ := hE
  have hL : gL Hb [] := gL.nil
  have hH := hG.2.2.2.2
  have hl := lv_entry ([.ref (ad k), .int (nI N'), .ref K.2.2.2]) (n := 4) (Nat.le_of_ble_eq_true rfl)
  rw [lg_entry_eq]
  generalize (lg_sl ([.ref (ad k), .int (nI N'), .ref K.2.2.2]) ++ List.replicate (4 - (lg_sl ([.ref (ad k), .int (nI N'), .ref K.2.2.2])).length) Slot.unset).toArray = ls at hl ⊢
  have hl : lv_has ls 4 [(0, .ref (ad k)), (1, .int (nI N')), (2, .ref K.2.2.2)] := hl
  refine lv_aload_n hx hb dJ7_copyOf_6403c_0 rfl (lv_at hl 2 rfl) ?_
  refine va_ldcM hx hb hown (hts (.classLink RJ7 110 "[Ljava/lang/Object;") (by decide +kernel)) hMi dJ7_copyOf_6403c_1 ?_
  refine lv_acmp_ne (rx := some K.2.2.2) (ry := some K.2.2.2) (tgt := 13) hx hb dJ7_copyOf_6403c_3 (by decide) (fun c => absurd rfl c) (fun _ => ?_)
  refine lv_iload_n hx hb dJ7_copyOf_6403c_6 rfl (lv_at hl 1 rfl) ?_
  refine z_newq (N' := N') S.1 hK hG (hts (.classLink RJ7 2 "java/lang/Object") (by decide +kernel)) hAO k' hk' (nNeg (by omega)) (ix_nI (by omega)) (by omega) (Nat.le_of_ble_eq_true rfl) (by show 0 + N' ≤ 73; omega) dJ7_copyOf_6403c_7 (fun ad1 H1 ha hG1 => ?_)
  have hak : ad1 k = ad k := ha k hk
  have hkk : ¬ k = k' := fun z => hk' (z ▸ hk)
  have hl : lv_has ls 4 [(0, .ref (ad1 k)), (1, .int (nI N')), (2, .ref K.2.2.2)] := by { rw [hak]; exact hl }
  refine lv_goto (tgt := 24) hx hb dJ7_copyOf_6403c_10 (by decide) ?_
  refine lv_astore_n (lv' := [(3, .ref (ad1 k')), (0, .ref (ad1 k)), (1, .int (nI N')), (2, .ref K.2.2.2)]) hx hb dJ7_copyOf_6403c_24 rfl hl (by decide) rfl (fun ls hl => ?_)
  refine lv_aload_n hx hb dJ7_copyOf_6403c_25 rfl (lv_at hl 1 rfl) ?_
  refine lv_iconst (v := 0) hx hb dJ7_copyOf_6403c_26 (by decide) ?_
  refine lv_aload_n hx hb dJ7_copyOf_6403c_27 rfl (lv_at hl 0 rfl) ?_
  refine lv_iconst (v := 0) hx hb dJ7_copyOf_6403c_28 (by decide) ?_
  refine lv_aload_n hx hb dJ7_copyOf_6403c_29 rfl (lv_at hl 1 rfl) ?_
  have he1 : va_up ce k' (.inl (cO, N', .inr (.inr (.inr (.inr (fun _ => none)))))) k = aRf cO N0 f := (va_up_ne _ _ hkk).trans he
  refine g_alen (v := nI N0) S.1 hK hG1 k (Or.inl hk) 3 he1 rfl rfl dJ7_copyOf_6403c_30 ?_
  refine lv_iload_n hx hb dJ7_copyOf_6403c_31 rfl (lv_at hl 2 rfl) ?_
  refine va_mmin hx hb (hml.trans hl.1.symm) hown (hts (.methodLink RJ7 304 Lib.Math.min.name) (by decide +kernel)) (hts (.static Lib.Math.min.name) (by decide +kernel)) (hts (.initialized "java/lang/Math") (by decide +kernel)) (hts (.code Lib.Math.min.name Lib.Math.min.code 2 (some .int)) (by decide +kernel)) (Nat.le_of_ble_eq_true rfl) (Nat.le_of_ble_eq_true rfl) (Nat.le_of_ble_eq_true rfl) (by show 0 + N' ≤ 73; omega) dJ7_copyOf_6403c_32 ?_
  refine lv_topi (fun z9 e9 => ?_)
  have e9 : z9 = nI N0 := e9.trans (minN hN (by omega))
  subst e9
  refine g_copyq (n0 := N0) (n1 := N') (f := f) (g := fun _ => none) S.1 (hml.trans hl.1.symm) (hts (.methodLink RJ7 150 arraycopyName) (by decide +kernel)) (hts (.native arraycopyName) (by decide +kernel)) (hts (.static arraycopyName) (by decide +kernel)) (hts (.initialized "java/lang/System") (by decide +kernel)) hK hG1 k k' (Or.inl hk) (Or.inr rfl) hkk he1 (va_up_self _ _ _) hc (hCa _ hca) (by decide) (by decide) (nNeg (by omega)) (by rw [ix_nI (by omega)]; show 0 + N0 ≤ N0; omega) (by rw [ix_nI (by omega)]; show 0 + N0 ≤ N'; omega) (fun i hi y hy => ?_) (Nat.le_of_ble_eq_true rfl) (Nat.le_of_ble_eq_true rfl) dJ7_copyOf_6403c_35 (fun H2 locs2 hG2 hL2 => ?_)
  · rw [ix_nI (by omega)] at hi
    obtain ⟨ko, fs, h1, h2, h3⟩ := hel i y hi (by rw [show Int32.toNatClampNeg 0 + i = i from Nat.zero_add i] at hy; exact hy)
    exact ⟨ko, fs, Or.inl h1, h2.trans (ha ko h1).symm, (va_up_ne _ _ (show ¬ ko = k' from fun z => hk' (z ▸ h1))).trans h3⟩
  · rw [ix_nI (by omega)] at hG2
    refine lv_aload_n hx hb dJ7_copyOf_6403c_38 rfl (lv_at hl 0 rfl) ?_
    exact n_aret S.1 hr (Or.inr ⟨_, rfl⟩) hlocks hG2 hL2 (Or.inr ⟨_, rfl⟩) ha rfl (fun _ h => h) (by { show va_up ce k' (aRf cO N' (fun i => if i < N0 then f i else none)) = _; rw [va_up_tw, ← va_cpy_0]; rfl }) dJ7_copyOf_6403c_39 (Nat.le_of_ble_eq_true rfl) (by show 0 + N' ≤ 73; omega)

set_option maxHeartbeats 1000000 in
set_option maxRecDepth 100000 in
theorem c_copyOf2 {l : Launch} {D : va_G} {cI cZ cB cO cR cJ : ClassId} {Hb : Heap} {K : kTx} {lv : Nat → Prop} {ad : Nat → Nat} {ce : Nat → va_E} (k k' N0 N' : Nat) (hk : lv k) (hk' : ¬ lv k') (hN : N0 ≤ N') (hN' : N' ≤ 73) {f : Nat → Option Nat} (he : ce k = aRf cO N0 f) {ci : Nat} {q : vw_C} (hc : vwCl[ci]? = some q) (hca : (q.1, "java/lang/Object") ∈ kNc) (hel : ∀ i y, i < N0 → f i = some y → ∃ ko fs, lv ko ∧ y = ad ko ∧ ce ko = .inr (ci, fs)) : Met l yJ7_copyOf_1904c wsJ7_copyOf_1904c { frames := 2, cells := 1, slots := 73, locals := 63 } (va_Pc [.ref (ad k), .int (nI N')] (kP D (tyL cI cZ cB cO cR cJ) Hb K lv ad ce)) (nQ D Hb lv ad k' (fun ad' => some (.ref (ad' k'))) (fun _ => va_up ce k' (aRf cO N' (fun i => if i < N0 then f i else none)))) 1 73 (gA Hb) := by
  refine Met.ofW (cc := cJ7_copyOf_1904c) (maxL := 2) (ret := (some (.array (.object "java/lang/Object")))) (by decide) rfl ?_
  intro p0 e0 s0 m0 args below meth c0 s₁ B hml hv
  obtain ⟨rfl, hG, hK, hE⟩ := hv
  have hx := B.exec
  have hb := B.bytes
  have hr := B.returns
  have hts := atoms_spec (ws := wsJ7_copyOf_1904c) B.pre
  have hown : s0.vm.findClass RJ7 = some m0.cls := findClass_of_methodNamed B.named
  have hlocks := B.notSynchronized
  have S : kX p0 m0 c0 cJ7_copyOf_1904c 2 s0 _ wsJ7_copyOf_1904c RJ7 D (tyL cI cZ cB cO cR cJ) Hb K := ⟨⟨hx, hb, hml, hown, hts⟩, hK, hE⟩
  obtain ⟨-, -, hCa, -, -, -, -, -, -, hEm, hEa, hMi, hAO, hDc, -⟩ := hE
  have hL : gL Hb [] := gL.nil
  have hH := hG.2.2.2.2
  have hl := lv_entry ([.ref (ad k), .int (nI N')]) (n := 2) (Nat.le_of_ble_eq_true rfl)
  rw [lg_entry_eq]
  generalize (lg_sl ([.ref (ad k), .int (nI N')]) ++ List.replicate (2 - (lg_sl ([.ref (ad k), .int (nI N')])).length) Slot.unset).toArray = ls at hl ⊢
  have hl : lv_has ls 2 [(0, .ref (ad k)), (1, .int (nI N'))] := hl
  refine lv_aload_n hx hb dJ7_copyOf_1904c_0 rfl (lv_at hl 0 rfl) ?_
  refine lv_iload_n hx hb dJ7_copyOf_1904c_1 rfl (lv_at hl 1 rfl) ?_
  refine lv_aload_n hx hb dJ7_copyOf_1904c_2 rfl (lv_at hl 0 rfl) ?_
  have hcl : ∃ cell : Cell, s0.heap[ad k]? = some cell ∧ cell.vm.isStatics = false ∧ s0.vm.findClass "[Ljava/lang/Object;" = some cell.cls := by
    have q : s0.heap[ad k]? = some (vp_cell cO (N0, .inr (.inr (.inr (.inr f))))) := (hG.one hk he) 0 _ rfl
    exact ⟨_, q, rfl, va_nmO (hK.2 3 _ rfl).2 rfl⟩
  refine va_getC (C := "[Ljava/lang/Object;") hx hb (hml.trans hl.1.symm) hown (hts (.methodLink RJ7 86 ⟨"java/lang/Object", "getClass", "()Ljava/lang/Class;"⟩) (by decide +kernel)) (va_Dc.use hDc) (hts (.selects "[Ljava/lang/Object;" ⟨"java/lang/Object", "getClass", "()Ljava/lang/Class;"⟩ ⟨"java/lang/Object", "getClass", "()Ljava/lang/Class;"⟩) (by decide +kernel)) (hts (.instanceMethod ⟨"java/lang/Object", "getClass", "()Ljava/lang/Class;"⟩) (by decide +kernel)) (hts (.native ⟨"java/lang/Object", "getClass", "()Ljava/lang/Class;"⟩) (by decide +kernel)) hMi hcl (Nat.le_of_ble_eq_true rfl) (Nat.le_of_ble_eq_true rfl) dJ7_copyOf_1904c_3 ?_
  refine n_callS (n := 3) (As := [.ref (ad k), .int (nI N'), .ref K.2.2.2]) (rest := []) S hG hL (c_copyOf3 k k' N0 N' hk hk' hN hN' he hc hca hel) gJ7_copyOf_1904c_J7_copyOf_6403c rfl ⟨rfl, rfl⟩ (by decide +kernel) ⟨(Nat.le_of_ble_eq_true rfl), (Nat.le_of_ble_eq_true rfl)⟩ rfl hl.1 rfl (Nat.le_of_ble_eq_true rfl) dJ7_copyOf_1904c_6 ⟨(Nat.le_of_ble_eq_true rfl), (Nat.le_of_ble_eq_true rfl)⟩ (fun ad1 H1 locs1 ha hG1 hL1 => ?_)
  exact n_aret S.1 hr (Or.inr ⟨_, rfl⟩) hlocks hG1 hL1 (Or.inr ⟨_, rfl⟩) ha rfl (fun _ h => h) rfl dJ7_copyOf_1904c_9 (Nat.le_of_ble_eq_true rfl) (Nat.le_of_ble_eq_true rfl)

set_option maxHeartbeats 1000000 in
set_option maxRecDepth 100000 in
theorem c_growN {l : Launch} {D : va_G} {cI cZ cB cO cR cJ : ClassId} {Hb : Heap} {K : kTx} {lv : Nat → Prop} {ad : Nat → Nat} {ce : Nat → va_E} (Lk ka k' n : Nat) (mc : Int32) (hLk : lv Lk) (hka : lv ka) (hk' : ¬ lv k') (h5 : g5 n) (hel0 : ce Lk = lOb mc (ad ka) (nI n)) {f : Nat → Option Nat} (he : ce ka = aRf cO n f) {ci : Nat} {q : vw_C} (hc : vwCl[ci]? = some q) (hca : (q.1, "java/lang/Object") ∈ kNc) (hel : ∀ i y, i < n → f i = some y → ∃ ko fs, lv ko ∧ y = ad ko ∧ ce ko = .inr (ci, fs)) : Met l yJx4a65c_grow_92f84 wsJx4a65c_grow_92f84 { frames := 3, cells := 1, slots := 73, locals := 90 } (va_Pc [.ref (ad Lk), .int (nI n + 1)] (kP D (tyL cI cZ cB cO cR cJ) Hb K lv ad ce)) (nQ D Hb lv ad k' (fun ad' => some (.ref (ad' k'))) (fun ad' => va_up (va_up ce k' (aRf cO (gCap (n + 1)) (fun i => if i < n then f i else none))) Lk (lOb mc (ad' k') (nI n)))) 1 73 (gA Hb) := by
  have hb5 := g5_b h5
  have hl5 := g5_l h5
  refine Met.ofW (cc := cJx4a65c_grow_92f84) (maxL := 4) (ret := (some (.array (.object "java/lang/Object")))) (by decide) rfl ?_
  intro p0 e0 s0 m0 args below meth c0 s₁ B hml hv
  obtain ⟨rfl, hG, hK, hE⟩ := hv
  have hx := B.exec
  have hb := B.bytes
  have hr := B.returns
  have hts := atoms_spec (ws := wsJx4a65c_grow_92f84) B.pre
  have hown : s0.vm.findClass RJx4a65c = some m0.cls := findClass_of_methodNamed B.named
  have hlocks := B.notSynchronized
  have S : kX p0 m0 c0 cJx4a65c_grow_92f84 4 s0 _ wsJx4a65c_grow_92f84 RJx4a65c D (tyL cI cZ cB cO cR cJ) Hb K := ⟨⟨hx, hb, hml, hown, hts⟩, hK, hE⟩
  obtain ⟨-, -, hCa, -, -, -, -, -, -, hEm, hEa, hMi, hAO, hDc, -⟩ := hE
  have hL : gL Hb [] := gL.nil
  have hH := hG.2.2.2.2
  have hl := lv_entry ([.ref (ad Lk), .int (nI n + 1)]) (n := 4) (Nat.le_of_ble_eq_true rfl)
  rw [lg_entry_eq]
  generalize (lg_sl ([.ref (ad Lk), .int (nI n + 1)]) ++ List.replicate (4 - (lg_sl ([.ref (ad Lk), .int (nI n + 1)])).length) Slot.unset).toArray = ls at hl ⊢
  have hl : lv_has ls 4 [(0, .ref (ad Lk)), (1, .int (nI n + 1))] := hl
  refine lv_aload_n hx hb dJx4a65c_grow_92f84_0 rfl (lv_at hl 0 rfl) ?_
  refine k_ga (C := RJx4a65c) (T := TJx4a65c) (N := 3) (ci := 0) (v := .ref (ad ka)) S hG (fun w h => List.mem_cons_of_mem _ (List.mem_append_right _ h)) Lk hLk hel0 rfl 1 (by decide) rfl (hts (.fieldLink RJx4a65c 9 "java/util/ArrayList" "elementData" "[Ljava/lang/Object;") (by decide +kernel)) rfl dJx4a65c_grow_92f84_1 ?_
  refine g_alen (v := nI n) S.1 hK hG ka hka 3 he rfl rfl dJx4a65c_grow_92f84_4 ?_
  refine lv_istore_n (lv' := [(2, .int (nI n)), (0, .ref (ad Lk)), (1, .int (nI n + 1))]) hx hb dJx4a65c_grow_92f84_5 rfl hl (by decide) rfl (fun ls hl => ?_)
  refine lv_iload_n hx hb dJx4a65c_grow_92f84_6 rfl (lv_at hl 0 rfl) ?_
  refine lv_if_gt (tgt := 20) hx hb dJx4a65c_grow_92f84_7 (by decide) (fun _ => ?_) (fun c => absurd (show (0 : Int32) < nI n by { rw [t_lt, t_0, nI_toInt (by omega)]; omega }) c)
  refine lv_iload_n hx hb dJx4a65c_grow_92f84_20 rfl (lv_at hl 0 rfl) ?_
  refine lv_iload_n hx hb dJx4a65c_grow_92f84_21 rfl (lv_at hl 2 rfl) ?_
  refine lv_iload_n hx hb dJx4a65c_grow_92f84_22 rfl (lv_at hl 0 rfl) ?_
  refine lv_isub hx hb dJx4a65c_grow_92f84_23 ?_
  refine lv_iload_n hx hb dJx4a65c_grow_92f84_24 rfl (lv_at hl 0 rfl) ?_
  refine lv_iconst (v := 1) hx hb dJx4a65c_grow_92f84_25 (by decide) ?_
  refine lv_ishr hx hb dJx4a65c_grow_92f84_26 ?_
  refine m_callP (n := 3) (As := [.int (nI n), .int (nI n + 1 - nI n), .int (nI n >>> ((1 : Int32) &&& 31))]) (rest := []) (st1 := .int (nI (gCap (n + 1))) :: []) S.1 (c_J8_newLength_cabcc _ _ _ (by rw [hl5, nI_toInt (by omega)]; omega) (by rw [hl5, nI_toInt (by omega)]; omega)) gJx4a65c_grow_92f84_J8_newLength_cabcc rfl (by decide +kernel) ⟨(Nat.le_of_ble_eq_true rfl), (Nat.le_of_ble_eq_true rfl)⟩ rfl hl.1 rfl (Nat.le_of_ble_eq_true rfl) dJx4a65c_grow_92f84_27 ⟨(Nat.le_of_ble_eq_true rfl), (Nat.le_of_ble_eq_true rfl)⟩ (by rw [hl5]; rfl) ?_
  refine lv_istore_n (lv' := [(3, .int (nI (gCap (n + 1)))), (2, .int (nI n)), (0, .ref (ad Lk)), (1, .int (nI n + 1))]) hx hb dJx4a65c_grow_92f84_30 rfl hl (by decide) rfl (fun ls hl => ?_)
  refine lv_aload_n hx hb dJx4a65c_grow_92f84_31 rfl (lv_at hl 2 rfl) ?_
  refine lv_aload_n hx hb dJx4a65c_grow_92f84_32 rfl (lv_at hl 2 rfl) ?_
  refine k_ga (C := RJx4a65c) (T := TJx4a65c) (N := 3) (ci := 0) (v := .ref (ad ka)) S hG (fun w h => List.mem_cons_of_mem _ (List.mem_append_right _ h)) Lk hLk hel0 rfl 1 (by decide) rfl (hts (.fieldLink RJx4a65c 9 "java/util/ArrayList" "elementData" "[Ljava/lang/Object;") (by decide +kernel)) rfl dJx4a65c_grow_92f84_33 ?_
  refine lv_iload_n hx hb dJx4a65c_grow_92f84_36 rfl (lv_at hl 0 rfl) ?_
  refine n_callS (n := 2) (As := [.ref (ad ka), .int (nI (gCap (n + 1)))]) (rest := [.ref (ad Lk)]) S hG hL (c_copyOf2 ka k' n (gCap (n + 1)) hka hk' (by omega) (by omega) he hc hca hel) gJx4a65c_grow_92f84_J7_copyOf_1904c rfl ⟨rfl, rfl⟩ (by decide +kernel) ⟨(Nat.le_of_ble_eq_true rfl), (Nat.le_of_ble_eq_true rfl)⟩ rfl hl.1 rfl (Nat.le_of_ble_eq_true rfl) dJx4a65c_grow_92f84_37 ⟨(Nat.le_of_ble_eq_true rfl), (Nat.le_of_ble_eq_true rfl)⟩ (fun ad1 H1 locs1 ha hG1 hL1 => ?_)
  refine lv_dup_x1 hx hb dJx4a65c_grow_92f84_40 rfl rfl ?_
  have hLn : ¬ Lk = k' := fun z => hk' (z ▸ hLk)
  refine W.eq (g2 := F0 m0 41 ls [.ref (ad1 k'), .ref (ad1 Lk), .ref (ad1 k')]) (congrArg (fun z => F0 m0 41 ls [.ref (ad1 k'), .ref z, .ref (ad1 k')]) (ha Lk hLk).symm) ?_
  refine k_pi (C := RJx4a65c) (T := TJx4a65c) (N := 3) (ci := 0) (ty := .array (.object "java/lang/Object")) (v := .ref (ad1 k')) S hG1 hL1 (fun w h => List.mem_cons_of_mem _ (List.mem_append_right _ h)) tyJx4a65c tyJx4a65c_ok nmJx4a65c Lk (Or.inl hLk) ((va_up_ne _ _ hLn).trans hel0) rfl 1 (by decide) rfl (hts (.fieldLink RJx4a65c 9 "java/util/ArrayList" "elementData" "[Ljava/lang/Object;") (by decide +kernel)) rfl (by decide +kernel) rfl rfl (Nat.le_of_ble_eq_true rfl) rfl dJx4a65c_grow_92f84_41 (fun H2 locs2 hG2 hL2 => ?_)
  exact n_aret S.1 hr (Or.inr ⟨_, rfl⟩) hlocks hG2 hL2 (Or.inr ⟨_, rfl⟩) ha rfl (fun _ h => h) rfl dJx4a65c_grow_92f84_44 (Nat.le_of_ble_eq_true rfl) (Nat.le_of_ble_eq_true rfl)

set_option maxHeartbeats 1000000 in
set_option maxRecDepth 100000 in
theorem c_grow0 {l : Launch} {D : va_G} {cI cZ cB cO cR cJ : ClassId} {Hb : Heap} {K : kTx} {lv : Nat → Prop} {ad : Nat → Nat} {ce : Nat → va_E} (Lk k' n : Nat) (mc : Int32) (hLk : lv Lk) (hk' : ¬ lv k') (h0 : n = 0) (hel0 : ce Lk = lOb mc K.2.2.1 (nI n)) : Met l yJx4a65c_grow_92f84 wsJx4a65c_grow_92f84 { frames := 3, cells := 1, slots := 73, locals := 90 } (va_Pc [.ref (ad Lk), .int (nI n + 1)] (kP D (tyL cI cZ cB cO cR cJ) Hb K lv ad ce)) (nQ D Hb lv ad k' (fun ad' => some (.ref (ad' k'))) (fun ad' => va_up (va_up ce k' (aRf cO 10 (fun _ => none))) Lk (lOb mc (ad' k') (nI n)))) 1 73 (gA Hb) := by
  subst h0
  refine Met.ofW (cc := cJx4a65c_grow_92f84) (maxL := 4) (ret := (some (.array (.object "java/lang/Object")))) (by decide) rfl ?_
  intro p0 e0 s0 m0 args below meth c0 s₁ B hml hv
  obtain ⟨rfl, hG, hK, hE⟩ := hv
  have hx := B.exec
  have hb := B.bytes
  have hr := B.returns
  have hts := atoms_spec (ws := wsJx4a65c_grow_92f84) B.pre
  have hown : s0.vm.findClass RJx4a65c = some m0.cls := findClass_of_methodNamed B.named
  have hlocks := B.notSynchronized
  have S : kX p0 m0 c0 cJx4a65c_grow_92f84 4 s0 _ wsJx4a65c_grow_92f84 RJx4a65c D (tyL cI cZ cB cO cR cJ) Hb K := ⟨⟨hx, hb, hml, hown, hts⟩, hK, hE⟩
  obtain ⟨-, -, hCa, -, -, -, -, -, -, hEm, hEa, hMi, hAO, hDc, -⟩ := hE
  have hL : gL Hb [] := gL.nil
  have hH := hG.2.2.2.2
  have hl := lv_entry ([.ref (ad Lk), .int (nI 0 + 1)]) (n := 4) (Nat.le_of_ble_eq_true rfl)
  rw [lg_entry_eq]
  generalize (lg_sl ([.ref (ad Lk), .int (nI 0 + 1)]) ++ List.replicate (4 - (lg_sl ([.ref (ad Lk), .int (nI 0 + 1)])).length) Slot.unset).toArray = ls at hl ⊢
  have hl : lv_has ls 4 [(0, .ref (ad Lk)), (1, .int (nI 0 + 1))] := hl
  refine lv_aload_n hx hb dJx4a65c_grow_92f84_0 rfl (lv_at hl 0 rfl) ?_
  refine k_ga (C := RJx4a65c) (T := TJx4a65c) (N := 3) (ci := 0) (v := .ref K.2.2.1) S hG (fun w h => List.mem_cons_of_mem _ (List.mem_append_right _ h)) Lk hLk hel0 rfl 1 (by decide) rfl (hts (.fieldLink RJx4a65c 9 "java/util/ArrayList" "elementData" "[Ljava/lang/Object;") (by decide +kernel)) rfl dJx4a65c_grow_92f84_1 ?_
  refine k_tlenO S hH hG hL hEa dJx4a65c_grow_92f84_4 ?_
  refine lv_istore_n (lv' := [(2, .int (nI 0)), (0, .ref (ad Lk)), (1, .int (nI 0 + 1))]) hx hb dJx4a65c_grow_92f84_5 rfl hl (by decide) rfl (fun ls hl => ?_)
  refine lv_iload_n hx hb dJx4a65c_grow_92f84_6 rfl (lv_at hl 0 rfl) ?_
  refine lv_if_gt (tgt := 20) hx hb dJx4a65c_grow_92f84_7 (by decide) (fun c => absurd c (by decide)) (fun _ => ?_)
  refine lv_aload_n hx hb dJx4a65c_grow_92f84_10 rfl (lv_at hl 1 rfl) ?_
  refine k_ga (C := RJx4a65c) (T := TJx4a65c) (N := 3) (ci := 0) (v := .ref K.2.2.1) S hG (fun w h => List.mem_cons_of_mem _ (List.mem_append_right _ h)) Lk hLk hel0 rfl 1 (by decide) rfl (hts (.fieldLink RJx4a65c 9 "java/util/ArrayList" "elementData" "[Ljava/lang/Object;") (by decide +kernel)) rfl dJx4a65c_grow_92f84_11 ?_
  refine k_gets (v := .ref K.2.2.1) S hH hG hL hEm (hts (.fieldLink RJx4a65c 39 "java/util/ArrayList" "DEFAULTCAPACITY_EMPTY_ELEMENTDATA" "[Ljava/lang/Object;") (by decide +kernel)) dJx4a65c_grow_92f84_14 ?_
  refine lv_acmp_eq (rx := some K.2.2.1) (ry := some K.2.2.1) (tgt := 45) hx hb dJx4a65c_grow_92f84_17 (by decide) (fun _ => ?_) (fun c => absurd rfl c)
  refine lv_aload_n hx hb dJx4a65c_grow_92f84_45 rfl (lv_at hl 1 rfl) ?_
  refine lv_bipush (v := 10) hx hb dJx4a65c_grow_92f84_46 (by decide) ?_
  refine lv_iload_n hx hb dJx4a65c_grow_92f84_48 rfl (lv_at hl 2 rfl) ?_
  refine va_mmax hx hb (hml.trans hl.1.symm) hown (hts (.methodLink RJx4a65c 79 Lib.Math.max.name) (by decide +kernel)) (hts (.static Lib.Math.max.name) (by decide +kernel)) (hts (.initialized "java/lang/Math") (by decide +kernel)) (hts (.code Lib.Math.max.name Lib.Math.max.code 2 (some .int)) (by decide +kernel)) (Nat.le_of_ble_eq_true rfl) (Nat.le_of_ble_eq_true rfl) (Nat.le_of_ble_eq_true rfl) (Nat.le_of_ble_eq_true rfl) dJx4a65c_grow_92f84_49 ?_
  refine lv_topi (fun z9 e9 => ?_)
  have e9 : z9 = 10 := e9.trans (by decide)
  subst e9
  refine z_newq (N' := 10) S.1 hK hG (hts (.classLink RJx4a65c 7 "java/lang/Object") (by decide +kernel)) hAO k' hk' (by decide) (by decide) (by decide) (Nat.le_of_ble_eq_true rfl) (Nat.le_of_ble_eq_true rfl) dJx4a65c_grow_92f84_52 (fun ad1 H1 ha hG1 => ?_)
  refine lv_dup_x1 hx hb dJx4a65c_grow_92f84_55 rfl rfl ?_
  have hLn : ¬ Lk = k' := fun z => hk' (z ▸ hLk)
  refine W.eq (g2 := F0 m0 56 ls [.ref (ad1 k'), .ref (ad1 Lk), .ref (ad1 k')]) (congrArg (fun z => F0 m0 56 ls [.ref (ad1 k'), .ref z, .ref (ad1 k')]) (ha Lk hLk).symm) ?_
  refine k_pi (C := RJx4a65c) (T := TJx4a65c) (N := 3) (ci := 0) (ty := .array (.object "java/lang/Object")) (v := .ref (ad1 k')) S hG1 hL (fun w h => List.mem_cons_of_mem _ (List.mem_append_right _ h)) tyJx4a65c tyJx4a65c_ok nmJx4a65c Lk (Or.inl hLk) ((va_up_ne _ _ hLn).trans hel0) rfl 1 (by decide) rfl (hts (.fieldLink RJx4a65c 9 "java/util/ArrayList" "elementData" "[Ljava/lang/Object;") (by decide +kernel)) rfl (by decide +kernel) rfl rfl (Nat.le_of_ble_eq_true rfl) rfl dJx4a65c_grow_92f84_56 (fun H2 locs2 hG2 hL2 => ?_)
  exact n_aret S.1 hr (Or.inr ⟨_, rfl⟩) hlocks hG2 hL2 (Or.inr ⟨_, rfl⟩) ha rfl (fun _ h => h) rfl dJx4a65c_grow_92f84_59 (Nat.le_of_ble_eq_true rfl) (Nat.le_of_ble_eq_true rfl)

set_option maxHeartbeats 1000000 in
set_option maxRecDepth 100000 in
theorem c_growA {l : Launch} {D : va_G} {cI cZ cB cO cR cJ : ClassId} {Hb : Heap} {K : kTx} {lv : Nat → Prop} {ad : Nat → Nat} {ce : Nat → va_E} {Lk k' n N' : Nat} {mc : Int32} {ea : Nat} {f' : Nat → Option Nat} (hLk : lv Lk) (hel0 : ce Lk = lOb mc ea (nI n)) (hM : Met l yJx4a65c_grow_92f84 wsJx4a65c_grow_92f84 { frames := 3, cells := 1, slots := 73, locals := 90 } (va_Pc [.ref (ad Lk), .int (nI n + 1)] (kP D (tyL cI cZ cB cO cR cJ) Hb K lv ad ce)) (nQ D Hb lv ad k' (fun ad' => some (.ref (ad' k'))) (fun ad' => va_up (va_up ce k' (aRf cO N' f')) Lk (lOb mc (ad' k') (nI n)))) 1 73 (gA Hb)) : Met l yJx4a65c_grow_d5877 wsJx4a65c_grow_d5877 { frames := 4, cells := 1, slots := 73, locals := 113 } (va_Pc [.ref (ad Lk)] (kP D (tyL cI cZ cB cO cR cJ) Hb K lv ad ce)) (nQ D Hb lv ad k' (fun ad' => some (.ref (ad' k'))) (fun ad' => va_up (va_up ce k' (aRf cO N' f')) Lk (lOb mc (ad' k') (nI n)))) 1 73 (gA Hb) := by
  refine Met.ofW (cc := cJx4a65c_grow_d5877) (maxL := 1) (ret := (some (.array (.object "java/lang/Object")))) (by decide) rfl ?_
  intro p0 e0 s0 m0 args below meth c0 s₁ B hml hv
  obtain ⟨rfl, hG, hK, hE⟩ := hv
  have hx := B.exec
  have hb := B.bytes
  have hr := B.returns
  have hts := atoms_spec (ws := wsJx4a65c_grow_d5877) B.pre
  have hown : s0.vm.findClass RJx4a65c = some m0.cls := findClass_of_methodNamed B.named
  have hlocks := B.notSynchronized
  have S : kX p0 m0 c0 cJx4a65c_grow_d5877 1 s0 _ wsJx4a65c_grow_d5877 RJx4a65c D (tyL cI cZ cB cO cR cJ) Hb K := ⟨⟨hx, hb, hml, hown, hts⟩, hK, hE⟩
  obtain ⟨-, -, hCa, -, -, -, -, -, -, hEm, hEa, hMi, hAO, hDc, -⟩ := hE
  have hL : gL Hb [] := gL.nil
  have hH := hG.2.2.2.2
  have hl := lv_entry ([.ref (ad Lk)]) (n := 1) (Nat.le_of_ble_eq_true rfl)
  rw [lg_entry_eq]
  generalize (lg_sl ([.ref (ad Lk)]) ++ List.replicate (1 - (lg_sl ([.ref (ad Lk)])).length) Slot.unset).toArray = ls at hl ⊢
  have hl : lv_has ls 1 [(0, .ref (ad Lk))] := hl
  refine lv_aload_n hx hb dJx4a65c_grow_d5877_0 rfl (lv_at hl 0 rfl) ?_
  refine lv_aload_n hx hb dJx4a65c_grow_d5877_1 rfl (lv_at hl 0 rfl) ?_
  refine k_gi (C := RJx4a65c) (T := TJx4a65c) (N := 3) (ci := 0) (v := nI n) S hG (fun w h => List.mem_cons_of_mem _ (List.mem_append_right _ h)) Lk hLk hel0 rfl 2 (by decide) rfl (hts (.fieldLink RJx4a65c 48 "java/util/ArrayList" "size" "I") (by decide +kernel)) rfl rfl dJx4a65c_grow_d5877_2 ?_
  refine lv_iconst (v := 1) hx hb dJx4a65c_grow_d5877_5 (by decide) ?_
  refine lv_iadd hx hb dJx4a65c_grow_d5877_6 ?_
  refine n_callV (n := 1) (As := [.int (nI n + 1)]) (rest := []) (k := Lk) (ci := 0) S hG hL hLk hel0 rfl hM gJx4a65c_grow_d5877_Jx4a65c_grow_92f84 rfl ⟨rfl, rfl⟩ (by decide +kernel) ⟨(Nat.le_of_ble_eq_true rfl), (Nat.le_of_ble_eq_true rfl)⟩ rfl hl.1 rfl (Nat.le_of_ble_eq_true rfl) dJx4a65c_grow_d5877_7 ⟨(Nat.le_of_ble_eq_true rfl), (Nat.le_of_ble_eq_true rfl)⟩ (fun ad1 H1 locs1 ha hG1 hL1 => ?_)
  exact n_aret S.1 hr (Or.inr ⟨_, rfl⟩) hlocks hG1 hL1 (Or.inr ⟨_, rfl⟩) ha rfl (fun _ h => h) rfl dJx4a65c_grow_d5877_10 (Nat.le_of_ble_eq_true rfl) (Nat.le_of_ble_eq_true rfl)

set_option maxHeartbeats 1000000 in
set_option maxRecDepth 100000 in
theorem c_add30 {l : Launch} {D : va_G} {cI cZ cB cO cR cJ : ClassId} {Hb : Heap} {K : kTx} {lv : Nat → Prop} {ad : Nat → Nat} {ce : Nat → va_E} {Lk k' n N' : Nat} {mc : Int32} {f' : Nat → Option Nat} (hLk : lv Lk) (hk' : ¬ lv k') (hn : n < N') (hN : N' ≤ 73) (h0 : n = 0) (hel0 : ce Lk = lOb mc K.2.2.1 (nI n)) (ko : Nat) (hko : lv ko) {ci : Nat} {q : vw_C} {fo : List Value} (ho : ce ko = .inr (ci, fo)) (hc : vwCl[ci]? = some q) (hca : (q.1, "java/lang/Object") ∈ kNc) (hne : ¬ ko = Lk) (hM : Met l yJx4a65c_grow_d5877 wsJx4a65c_grow_d5877 { frames := 4, cells := 1, slots := 73, locals := 113 } (va_Pc [.ref (ad Lk)] (kP D (tyL cI cZ cB cO cR cJ) Hb K lv ad ce)) (nQ D Hb lv ad k' (fun ad' => some (.ref (ad' k'))) (fun ad' => va_up (va_up ce k' (aRf cO N' f')) Lk (lOb mc (ad' k') (nI n)))) 1 73 (gA Hb)) : Met l yJx4a65c_add_72be8 wsJx4a65c_add_72be8 { frames := 5, cells := 1, slots := 73, locals := 133 } (va_Pc [.ref (ad Lk), .ref (ad ko), .ref K.2.2.1, .int (nI n)] (kP D (tyL cI cZ cB cO cR cJ) Hb K lv ad ce)) (nQ D Hb lv ad k' (fun _ => none) (fun ad' => va_up (va_up ce k' (aRf cO N' (va_up f' n (some (ad' ko))))) Lk (lOb mc (ad' k') (nI n + 1)))) 1 73 (gA Hb) := by
  refine Met.ofW (cc := cJx4a65c_add_72be8) (maxL := 4) (ret := none) (by decide) rfl ?_
  intro p0 e0 s0 m0 args below meth c0 s₁ B hml hv
  obtain ⟨rfl, hG, hK, hE⟩ := hv
  have hx := B.exec
  have hb := B.bytes
  have hr := B.returns
  have hts := atoms_spec (ws := wsJx4a65c_add_72be8) B.pre
  have hown : s0.vm.findClass RJx4a65c = some m0.cls := findClass_of_methodNamed B.named
  have hlocks := B.notSynchronized
  have S : kX p0 m0 c0 cJx4a65c_add_72be8 4 s0 _ wsJx4a65c_add_72be8 RJx4a65c D (tyL cI cZ cB cO cR cJ) Hb K := ⟨⟨hx, hb, hml, hown, hts⟩, hK, hE⟩
  obtain ⟨-, -, hCa, -, -, -, -, -, -, hEm, hEa, hMi, hAO, hDc, -⟩ := hE
  have hL : gL Hb [] := gL.nil
  have hH := hG.2.2.2.2
  have hl := lv_entry ([.ref (ad Lk), .ref (ad ko), .ref K.2.2.1, .int (nI n)]) (n := 4) (Nat.le_of_ble_eq_true rfl)
  rw [lg_entry_eq]
  generalize (lg_sl ([.ref (ad Lk), .ref (ad ko), .ref K.2.2.1, .int (nI n)]) ++ List.replicate (4 - (lg_sl ([.ref (ad Lk), .ref (ad ko), .ref K.2.2.1, .int (nI n)])).length) Slot.unset).toArray = ls at hl ⊢
  have hl : lv_has ls 4 [(0, .ref (ad Lk)), (1, .ref (ad ko)), (2, .ref K.2.2.1), (3, .int (nI n))] := hl
  refine lv_iload_n hx hb dJx4a65c_add_72be8_0 rfl (lv_at hl 3 rfl) ?_
  refine lv_aload_n hx hb dJx4a65c_add_72be8_1 rfl (lv_at hl 2 rfl) ?_
  refine k_tlenO S hH hG hL hEa dJx4a65c_add_72be8_2 ?_
  refine lv_icmp_ne (tgt := 11) hx hb dJx4a65c_add_72be8_3 (by decide) (fun c => absurd (by rw [h0]) c) (fun _ => ?_)
  refine lv_aload_n hx hb dJx4a65c_add_72be8_6 rfl (lv_at hl 0 rfl) ?_
  refine n_callV (n := 0) (As := []) (rest := []) (k := Lk) (ci := 0) S hG hL hLk hel0 rfl hM gJx4a65c_add_72be8_Jx4a65c_grow_d5877 rfl ⟨rfl, rfl⟩ (by decide +kernel) ⟨(Nat.le_of_ble_eq_true rfl), (Nat.le_of_ble_eq_true rfl)⟩ rfl hl.1 rfl (Nat.le_of_ble_eq_true rfl) dJx4a65c_add_72be8_7 ⟨(Nat.le_of_ble_eq_true rfl), (Nat.le_of_ble_eq_true rfl)⟩ (fun ad1 H1 locs1 ha hG1 hL1 => ?_)
  have hLn : ¬ k' = Lk := fun z => hk' (z ▸ hLk)
  have hkn : ¬ ko = k' := fun z => hk' (z ▸ hko)
  have hl : lv_has ls 4 [(0, .ref (ad1 Lk)), (1, .ref (ad1 ko)), (3, .int (nI n))] := by { rw [ha Lk hLk, ha ko hko]; exact lv_sub hl [0, 1, 3] rfl }
  refine lv_astore_n (lv' := [(2, .ref (ad1 k')), (0, .ref (ad1 Lk)), (1, .ref (ad1 ko)), (3, .int (nI n))]) hx hb dJx4a65c_add_72be8_10 rfl hl (by decide) rfl (fun ls hl => ?_)
  refine lv_aload_n hx hb dJx4a65c_add_72be8_11 rfl (lv_at hl 0 rfl) ?_
  refine lv_iload_n hx hb dJx4a65c_add_72be8_12 rfl (lv_at hl 3 rfl) ?_
  refine lv_aload_n hx hb dJx4a65c_add_72be8_13 rfl (lv_at hl 2 rfl) ?_
  refine g_aast (n := N') (f := f') S.1 hK hG1 hL1 k' (Or.inr rfl) ((va_up_ne _ _ hLn).trans (va_up_self _ _ _)) ko (Or.inl hko) (((va_up_ne _ _ hne).trans (va_up_ne _ _ hkn)).trans ho) hc (hCa _ hca) (vp_in_i hn (by omega)) dJx4a65c_add_72be8_14 (fun H2 locs2 hG2 hL2 => ?_)
  rw [ix_nI (by omega)] at hG2
  refine lv_aload_n hx hb dJx4a65c_add_72be8_15 rfl (lv_at hl 1 rfl) ?_
  refine lv_iload_n hx hb dJx4a65c_add_72be8_16 rfl (lv_at hl 3 rfl) ?_
  refine lv_iconst (v := 1) hx hb dJx4a65c_add_72be8_17 (by decide) ?_
  refine lv_iadd hx hb dJx4a65c_add_72be8_18 ?_
  refine k_pi (C := RJx4a65c) (T := TJx4a65c) (N := 3) (ci := 0) (ty := .int) (v := .int (nI n + 1)) S hG2 hL2 (fun w h => List.mem_cons_of_mem _ (List.mem_append_right _ h)) tyJx4a65c tyJx4a65c_ok nmJx4a65c Lk (Or.inl hLk) ((va_up_ne _ _ (fun z => hLn z.symm)).trans (va_up_self _ _ _)) rfl 2 (by decide) rfl (hts (.fieldLink RJx4a65c 48 "java/util/ArrayList" "size" "I") (by decide +kernel)) rfl (by decide +kernel) rfl rfl (Nat.le_of_ble_eq_true rfl) rfl dJx4a65c_add_72be8_19 (fun H3 locs3 hG3 hL3 => ?_)
  exact n_vret S.1 hr hlocks hG3 hL3 ha rfl (fun _ h => h) (by { rw [va_up_sw _ (fun z => hLn z.symm), va_up_tw, va_up_tw]; rfl }) dJx4a65c_add_72be8_22 (Nat.le_of_ble_eq_true rfl) (Nat.le_of_ble_eq_true rfl)

set_option maxHeartbeats 1000000 in
set_option maxRecDepth 100000 in
theorem c_add3N {l : Launch} {D : va_G} {cI cZ cB cO cR cJ : ClassId} {Hb : Heap} {K : kTx} {lv : Nat → Prop} {ad : Nat → Nat} {ce : Nat → va_E} {Lk k' n N' : Nat} {mc : Int32} {f' : Nat → Option Nat} (hLk : lv Lk) (hk' : ¬ lv k') (hn : n < N') (hN : N' ≤ 73) (ka : Nat) (hka : lv ka) {f : Nat → Option Nat} (he : ce ka = aRf cO n f) (hel0 : ce Lk = lOb mc (ad ka) (nI n)) (ko : Nat) (hko : lv ko) {ci : Nat} {q : vw_C} {fo : List Value} (ho : ce ko = .inr (ci, fo)) (hc : vwCl[ci]? = some q) (hca : (q.1, "java/lang/Object") ∈ kNc) (hne : ¬ ko = Lk) (hM : Met l yJx4a65c_grow_d5877 wsJx4a65c_grow_d5877 { frames := 4, cells := 1, slots := 73, locals := 113 } (va_Pc [.ref (ad Lk)] (kP D (tyL cI cZ cB cO cR cJ) Hb K lv ad ce)) (nQ D Hb lv ad k' (fun ad' => some (.ref (ad' k'))) (fun ad' => va_up (va_up ce k' (aRf cO N' f')) Lk (lOb mc (ad' k') (nI n)))) 1 73 (gA Hb)) : Met l yJx4a65c_add_72be8 wsJx4a65c_add_72be8 { frames := 5, cells := 1, slots := 73, locals := 133 } (va_Pc [.ref (ad Lk), .ref (ad ko), .ref (ad ka), .int (nI n)] (kP D (tyL cI cZ cB cO cR cJ) Hb K lv ad ce)) (nQ D Hb lv ad k' (fun _ => none) (fun ad' => va_up (va_up ce k' (aRf cO N' (va_up f' n (some (ad' ko))))) Lk (lOb mc (ad' k') (nI n + 1)))) 1 73 (gA Hb) := by
  refine Met.ofW (cc := cJx4a65c_add_72be8) (maxL := 4) (ret := none) (by decide) rfl ?_
  intro p0 e0 s0 m0 args below meth c0 s₁ B hml hv
  obtain ⟨rfl, hG, hK, hE⟩ := hv
  have hx := B.exec
  have hb := B.bytes
  have hr := B.returns
  have hts := atoms_spec (ws := wsJx4a65c_add_72be8) B.pre
  have hown : s0.vm.findClass RJx4a65c = some m0.cls := findClass_of_methodNamed B.named
  have hlocks := B.notSynchronized
  have S : kX p0 m0 c0 cJx4a65c_add_72be8 4 s0 _ wsJx4a65c_add_72be8 RJx4a65c D (tyL cI cZ cB cO cR cJ) Hb K := ⟨⟨hx, hb, hml, hown, hts⟩, hK, hE⟩
  obtain ⟨-, -, hCa, -, -, -, -, -, -, hEm, hEa, hMi, hAO, hDc, -⟩ := hE
  have hL : gL Hb [] := gL.nil
  have hH := hG.2.2.2.2
  have hl := lv_entry ([.ref (ad Lk), .ref (ad ko), .ref (ad ka), .int (nI n)]) (n := 4) (Nat.le_of_ble_eq_true rfl)
  rw [lg_entry_eq]
  generalize (lg_sl ([.ref (ad Lk), .ref (ad ko), .ref (ad ka), .int (nI n)]) ++ List.replicate (4 - (lg_sl ([.ref (ad Lk), .ref (ad ko), .ref (ad ka), .int (nI n)])).length) Slot.unset).toArray = ls at hl ⊢
  have hl : lv_has ls 4 [(0, .ref (ad Lk)), (1, .ref (ad ko)), (2, .ref (ad ka)), (3, .int (nI n))] := hl
  refine lv_iload_n hx hb dJx4a65c_add_72be8_0 rfl (lv_at hl 3 rfl) ?_
  refine lv_aload_n hx hb dJx4a65c_add_72be8_1 rfl (lv_at hl 2 rfl) ?_
  refine g_alen (v := nI n) S.1 hK hG ka hka 3 he rfl rfl dJx4a65c_add_72be8_2 ?_
  refine lv_icmp_ne (tgt := 11) hx hb dJx4a65c_add_72be8_3 (by decide) (fun c => absurd (rfl) c) (fun _ => ?_)
  refine lv_aload_n hx hb dJx4a65c_add_72be8_6 rfl (lv_at hl 0 rfl) ?_
  refine n_callV (n := 0) (As := []) (rest := []) (k := Lk) (ci := 0) S hG hL hLk hel0 rfl hM gJx4a65c_add_72be8_Jx4a65c_grow_d5877 rfl ⟨rfl, rfl⟩ (by decide +kernel) ⟨(Nat.le_of_ble_eq_true rfl), (Nat.le_of_ble_eq_true rfl)⟩ rfl hl.1 rfl (Nat.le_of_ble_eq_true rfl) dJx4a65c_add_72be8_7 ⟨(Nat.le_of_ble_eq_true rfl), (Nat.le_of_ble_eq_true rfl)⟩ (fun ad1 H1 locs1 ha hG1 hL1 => ?_)
  have hLn : ¬ k' = Lk := fun z => hk' (z ▸ hLk)
  have hkn : ¬ ko = k' := fun z => hk' (z ▸ hko)
  have hl : lv_has ls 4 [(0, .ref (ad1 Lk)), (1, .ref (ad1 ko)), (3, .int (nI n))] := by { rw [ha Lk hLk, ha ko hko]; exact lv_sub hl [0, 1, 3] rfl }
  refine lv_astore_n (lv' := [(2, .ref (ad1 k')), (0, .ref (ad1 Lk)), (1, .ref (ad1 ko)), (3, .int (nI n))]) hx hb dJx4a65c_add_72be8_10 rfl hl (by decide) rfl (fun ls hl => ?_)
  refine lv_aload_n hx hb dJx4a65c_add_72be8_11 rfl (lv_at hl 0 rfl) ?_
  refine lv_iload_n hx hb dJx4a65c_add_72be8_12 rfl (lv_at hl 3 rfl) ?_
  refine lv_aload_n hx hb dJx4a65c_add_72be8_13 rfl (lv_at hl 2 rfl) ?_
  refine g_aast (n := N') (f := f') S.1 hK hG1 hL1 k' (Or.inr rfl) ((va_up_ne _ _ hLn).trans (va_up_self _ _ _)) ko (Or.inl hko) (((va_up_ne _ _ hne).trans (va_up_ne _ _ hkn)).trans ho) hc (hCa _ hca) (vp_in_i hn (by omega)) dJx4a65c_add_72be8_14 (fun H2 locs2 hG2 hL2 => ?_)
  rw [ix_nI (by omega)] at hG2
  refine lv_aload_n hx hb dJx4a65c_add_72be8_15 rfl (lv_at hl 1 rfl) ?_
  refine lv_iload_n hx hb dJx4a65c_add_72be8_16 rfl (lv_at hl 3 rfl) ?_
  refine lv_iconst (v := 1) hx hb dJx4a65c_add_72be8_17 (by decide) ?_
  refine lv_iadd hx hb dJx4a65c_add_72be8_18 ?_
  refine k_pi (C := RJx4a65c) (T := TJx4a65c) (N := 3) (ci := 0) (ty := .int) (v := .int (nI n + 1)) S hG2 hL2 (fun w h => List.mem_cons_of_mem _ (List.mem_append_right _ h)) tyJx4a65c tyJx4a65c_ok nmJx4a65c Lk (Or.inl hLk) ((va_up_ne _ _ (fun z => hLn z.symm)).trans (va_up_self _ _ _)) rfl 2 (by decide) rfl (hts (.fieldLink RJx4a65c 48 "java/util/ArrayList" "size" "I") (by decide +kernel)) rfl (by decide +kernel) rfl rfl (Nat.le_of_ble_eq_true rfl) rfl dJx4a65c_add_72be8_19 (fun H3 locs3 hG3 hL3 => ?_)
  exact n_vret S.1 hr hlocks hG3 hL3 ha rfl (fun _ h => h) (by { rw [va_up_sw _ (fun z => hLn z.symm), va_up_tw, va_up_tw]; rfl }) dJx4a65c_add_72be8_22 (Nat.le_of_ble_eq_true rfl) (Nat.le_of_ble_eq_true rfl)

set_option maxHeartbeats 1000000 in
set_option maxRecDepth 100000 in
theorem c_add3P {l : Launch} {D : va_G} {cI cZ cB cO cR cJ : ClassId} {Hb : Heap} {K : kTx} {lv : Nat → Prop} {ad : Nat → Nat} {ce : Nat → va_E} (Lk ka n N' : Nat) (mc : Int32) (hLk : lv Lk) (hka : lv ka) (hkL : ¬ ka = Lk) (hn : n < N') (hN : N' ≤ 73) (hel0 : ce Lk = lOb mc (ad ka) (nI n)) {f : Nat → Option Nat} (he : ce ka = aRf cO N' f) (ko : Nat) (hko : lv ko) {ci : Nat} {q : vw_C} {fo : List Value} (ho : ce ko = .inr (ci, fo)) (hc : vwCl[ci]? = some q) (hca : (q.1, "java/lang/Object") ∈ kNc) (hne : ¬ ko = Lk) : Met l yJx4a65c_add_72be8 wsJx4a65c_add_72be8 { frames := 5, cells := 1, slots := 73, locals := 133 } (va_Pc [.ref (ad Lk), .ref (ad ko), .ref (ad ka), .int (nI n)] (kP D (tyL cI cZ cB cO cR cJ) Hb K lv ad ce)) (gQ D Hb lv ad none (va_up (va_up ce ka (aRf cO N' (va_up f n (some (ad ko))))) Lk (lOb mc (ad ka) (nI n + 1)))) 1 73 (gA Hb) := by
  refine Met.ofW (cc := cJx4a65c_add_72be8) (maxL := 4) (ret := none) (by decide) rfl ?_
  intro p0 e0 s0 m0 args below meth c0 s₁ B hml hv
  obtain ⟨rfl, hG, hK, hE⟩ := hv
  have hx := B.exec
  have hb := B.bytes
  have hr := B.returns
  have hts := atoms_spec (ws := wsJx4a65c_add_72be8) B.pre
  have hown : s0.vm.findClass RJx4a65c = some m0.cls := findClass_of_methodNamed B.named
  have hlocks := B.notSynchronized
  have S : kX p0 m0 c0 cJx4a65c_add_72be8 4 s0 _ wsJx4a65c_add_72be8 RJx4a65c D (tyL cI cZ cB cO cR cJ) Hb K := ⟨⟨hx, hb, hml, hown, hts⟩, hK, hE⟩
  obtain ⟨-, -, hCa, -, -, -, -, -, -, hEm, hEa, hMi, hAO, hDc, -⟩ := hE
  have hL : gL Hb [] := gL.nil
  have hH := hG.2.2.2.2
  have hl := lv_entry ([.ref (ad Lk), .ref (ad ko), .ref (ad ka), .int (nI n)]) (n := 4) (Nat.le_of_ble_eq_true rfl)
  rw [lg_entry_eq]
  generalize (lg_sl ([.ref (ad Lk), .ref (ad ko), .ref (ad ka), .int (nI n)]) ++ List.replicate (4 - (lg_sl ([.ref (ad Lk), .ref (ad ko), .ref (ad ka), .int (nI n)])).length) Slot.unset).toArray = ls at hl ⊢
  have hl : lv_has ls 4 [(0, .ref (ad Lk)), (1, .ref (ad ko)), (2, .ref (ad ka)), (3, .int (nI n))] := hl
  refine lv_iload_n hx hb dJx4a65c_add_72be8_0 rfl (lv_at hl 3 rfl) ?_
  refine lv_aload_n hx hb dJx4a65c_add_72be8_1 rfl (lv_at hl 2 rfl) ?_
  refine g_alen (v := nI N') S.1 hK hG ka hka 3 he rfl rfl dJx4a65c_add_72be8_2 ?_
  refine lv_icmp_ne (tgt := 11) hx hb dJx4a65c_add_72be8_3 (by decide) (fun _ => ?_) (fun c => absurd c (fun z => by { have q := congrArg Int32.toInt z; rw [nI_toInt (by omega), nI_toInt (by omega)] at q; omega }))
  refine lv_aload_n hx hb dJx4a65c_add_72be8_11 rfl (lv_at hl 2 rfl) ?_
  refine lv_iload_n hx hb dJx4a65c_add_72be8_12 rfl (lv_at hl 3 rfl) ?_
  refine lv_aload_n hx hb dJx4a65c_add_72be8_13 rfl (lv_at hl 1 rfl) ?_
  refine g_aast (n := N') (f := f) S.1 hK hG hL ka hka he ko hko ho hc (hCa _ hca) (vp_in_i hn (by omega)) dJx4a65c_add_72be8_14 (fun H2 locs2 hG2 hL2 => ?_)
  rw [ix_nI (by omega)] at hG2
  refine lv_aload_n hx hb dJx4a65c_add_72be8_15 rfl (lv_at hl 0 rfl) ?_
  refine lv_iload_n hx hb dJx4a65c_add_72be8_16 rfl (lv_at hl 3 rfl) ?_
  refine lv_iconst (v := 1) hx hb dJx4a65c_add_72be8_17 (by decide) ?_
  refine lv_iadd hx hb dJx4a65c_add_72be8_18 ?_
  refine k_pi (C := RJx4a65c) (T := TJx4a65c) (N := 3) (ci := 0) (ty := .int) (v := .int (nI n + 1)) S hG2 hL2 (fun w h => List.mem_cons_of_mem _ (List.mem_append_right _ h)) tyJx4a65c tyJx4a65c_ok nmJx4a65c Lk hLk ((va_up_ne _ _ (fun z => hkL z.symm)).trans hel0) rfl 2 (by decide) rfl (hts (.fieldLink RJx4a65c 48 "java/util/ArrayList" "size" "I") (by decide +kernel)) rfl (by decide +kernel) rfl rfl (Nat.le_of_ble_eq_true rfl) rfl dJx4a65c_add_72be8_19 (fun H3 locs3 hG3 hL3 => ?_)
  exact W.widen (Nat.le_of_ble_eq_true rfl) (Nat.le_of_ble_eq_true rfl) (W.vret hx hb hr (fun t ht _ => ⟨rfl, by { rw [ht]; exact hG3 }⟩) hL3 dJx4a65c_add_72be8_22 hlocks)

set_option maxHeartbeats 1000000 in
set_option maxRecDepth 100000 in
theorem c_add0 {l : Launch} {D : va_G} {cI cZ cB cO cR cJ : ClassId} {Hb : Heap} {K : kTx} {lv : Nat → Prop} {ad : Nat → Nat} {ce : Nat → va_E} (Lk k' n : Nat) (mc : Int32) (hLk : lv Lk) (hk' : ¬ lv k')  (hel0 : ce Lk = lOb mc K.2.2.1 (nI n)) (ko : Nat) (hko : lv ko) {ci : Nat} {q : vw_C} {fo : List Value} (ho : ce ko = .inr (ci, fo)) (hc : vwCl[ci]? = some q) (hca : (q.1, "java/lang/Object") ∈ kNc) (hne : ¬ ko = Lk) (h0 : n = 0) : Met l yJx4a65c_add_9ea2d wsJx4a65c_add_9ea2d { frames := 6, cells := 1, slots := 73, locals := 156 } (va_Pc [.ref (ad Lk), .ref (ad ko)] (kP D (tyL cI cZ cB cO cR cJ) Hb K lv ad ce)) (nQ D Hb lv ad k' (fun _ => some (.int 1)) (fun ad' => va_up (va_up ce k' (aRf cO 10 (va_up (fun _ => none) n (some (ad' ko))))) Lk (lOb (mc + 1) (ad' k') (nI n + 1)))) 1 73 (gA Hb) := by
  refine Met.ofW (cc := cJx4a65c_add_9ea2d) (maxL := 2) (ret := (some .boolean)) (by decide) rfl ?_
  intro p0 e0 s0 m0 args below meth c0 s₁ B hml hv
  obtain ⟨rfl, hG, hK, hE⟩ := hv
  have hx := B.exec
  have hb := B.bytes
  have hr := B.returns
  have hts := atoms_spec (ws := wsJx4a65c_add_9ea2d) B.pre
  have hown : s0.vm.findClass RJx4a65c = some m0.cls := findClass_of_methodNamed B.named
  have hlocks := B.notSynchronized
  have S : kX p0 m0 c0 cJx4a65c_add_9ea2d 2 s0 _ wsJx4a65c_add_9ea2d RJx4a65c D (tyL cI cZ cB cO cR cJ) Hb K := ⟨⟨hx, hb, hml, hown, hts⟩, hK, hE⟩
  obtain ⟨-, -, hCa, -, -, -, -, -, -, hEm, hEa, hMi, hAO, hDc, -⟩ := hE
  have hL : gL Hb [] := gL.nil
  have hH := hG.2.2.2.2
  have hl := lv_entry ([.ref (ad Lk), .ref (ad ko)]) (n := 2) (Nat.le_of_ble_eq_true rfl)
  rw [lg_entry_eq]
  generalize (lg_sl ([.ref (ad Lk), .ref (ad ko)]) ++ List.replicate (2 - (lg_sl ([.ref (ad Lk), .ref (ad ko)])).length) Slot.unset).toArray = ls at hl ⊢
  have hl : lv_has ls 2 [(0, .ref (ad Lk)), (1, .ref (ad ko))] := hl
  refine lv_aload_n hx hb dJx4a65c_add_9ea2d_0 rfl (lv_at hl 0 rfl) ?_
  refine lv_dup hx hb dJx4a65c_add_9ea2d_1 rfl ?_
  refine g_get (ref := "java/util/ArrayList") (C := RJx4a65c) (T := TJx4a65c) (N := 3) (ci := 0) S.1 hK hG (fun w h => List.mem_cons_of_mem _ (List.mem_append_right _ h)) Lk hLk hel0 rfl 0 (by decide) (hts (.fieldLink RJx4a65c 63 "java/util/ArrayList" "modCount" "I") (by decide +kernel)) (fun x h => u_same (hts (.sameField "java/util/ArrayList" "java/util/AbstractList" "modCount" "I") (by decide +kernel)) x h) rfl dJx4a65c_add_9ea2d_2 ?_
  refine lv_iconst (v := 1) hx hb dJx4a65c_add_9ea2d_5 (by decide) ?_
  refine lv_iadd hx hb dJx4a65c_add_9ea2d_6 ?_
  refine g_put (ref := "java/util/ArrayList") (C := RJx4a65c) (T := TJx4a65c) (N := 3) (ci := 0) (ty := .int) S.1 hK hG hL (fun w h => List.mem_cons_of_mem _ (List.mem_append_right _ h)) tyJx4a65c tyJx4a65c_ok nmJx4a65c Lk hLk hel0 rfl 0 (by decide) (hts (.fieldLink RJx4a65c 63 "java/util/ArrayList" "modCount" "I") (by decide +kernel)) (fun x h => u_same (hts (.sameField "java/util/ArrayList" "java/util/AbstractList" "modCount" "I") (by decide +kernel)) x h) rfl (by decide +kernel) rfl rfl (Nat.le_of_ble_eq_true rfl) dJx4a65c_add_9ea2d_7 (fun H1 locs1 hG1 hL1 => ?_)
  refine lv_aload_n hx hb dJx4a65c_add_9ea2d_10 rfl (lv_at hl 0 rfl) ?_
  refine lv_aload_n hx hb dJx4a65c_add_9ea2d_11 rfl (lv_at hl 1 rfl) ?_
  refine lv_aload_n hx hb dJx4a65c_add_9ea2d_12 rfl (lv_at hl 0 rfl) ?_
  refine k_ga (C := RJx4a65c) (T := TJx4a65c) (N := 3) (ci := 0) (v := .ref K.2.2.1) S hG1 (fun w h => List.mem_cons_of_mem _ (List.mem_append_right _ h)) Lk hLk (va_up_self _ _ _) rfl 1 (by decide) rfl (hts (.fieldLink RJx4a65c 9 "java/util/ArrayList" "elementData" "[Ljava/lang/Object;") (by decide +kernel)) rfl dJx4a65c_add_9ea2d_13 ?_
  refine lv_aload_n hx hb dJx4a65c_add_9ea2d_16 rfl (lv_at hl 0 rfl) ?_
  refine k_gi (C := RJx4a65c) (T := TJx4a65c) (N := 3) (ci := 0) (v := nI n) S hG1 (fun w h => List.mem_cons_of_mem _ (List.mem_append_right _ h)) Lk hLk (va_up_self _ _ _) rfl 2 (by decide) rfl (hts (.fieldLink RJx4a65c 48 "java/util/ArrayList" "size" "I") (by decide +kernel)) rfl rfl dJx4a65c_add_9ea2d_17 ?_
  have hLn : ¬ k' = Lk := fun z => hk' (z ▸ hLk)
  have hg := c_growA (l := l) (ad := ad) (cO := cO) (D := D) (Hb := Hb) (K := K) (cI := cI) (cZ := cZ) (cB := cB) (cR := cR) (cJ := cJ) (ce := (va_up ce Lk (lOb (mc + 1) K.2.2.1 (nI n)))) hLk (va_up_self _ _ _) (c_grow0 Lk k' n (mc + 1) hLk hk' h0 (va_up_self _ _ _))
  refine n_callV (n := 3) (As := [.ref (ad ko), .ref K.2.2.1, .int (nI n)]) (rest := [])  (k := Lk) (ci := 0) S hG1 hL1 hLk (va_up_self _ _ _) rfl (c_add30 (ce := (va_up ce Lk (lOb (mc + 1) K.2.2.1 (nI n)))) hLk hk' (by omega) (by omega) h0 (va_up_self _ _ _) ko hko ((va_up_ne _ _ hne).trans ho) hc hca hne hg) gJx4a65c_add_9ea2d_Jx4a65c_add_72be8 rfl ⟨rfl, rfl⟩ (by decide +kernel) ⟨(Nat.le_of_ble_eq_true rfl), (Nat.le_of_ble_eq_true rfl)⟩ rfl hl.1 rfl (Nat.le_of_ble_eq_true rfl) dJx4a65c_add_9ea2d_20 ⟨(Nat.le_of_ble_eq_true rfl), (Nat.le_of_ble_eq_true rfl)⟩ (fun ad1 H2 locs2 ha hG2 hL2 => ?_)
  refine lv_iconst (v := 1) hx hb dJx4a65c_add_9ea2d_23 (by decide) ?_
  exact n_zret S.1 hr hlocks (by decide) hG2 hL2 ha rfl (fun _ h => h) (by { rw [va_up_sw ce (fun z => hLn z.symm), va_up_tw] }) dJx4a65c_add_9ea2d_24 (Nat.le_of_ble_eq_true rfl) (Nat.le_of_ble_eq_true rfl)

set_option maxHeartbeats 1000000 in
set_option maxRecDepth 100000 in
theorem c_addN {l : Launch} {D : va_G} {cI cZ cB cO cR cJ : ClassId} {Hb : Heap} {K : kTx} {lv : Nat → Prop} {ad : Nat → Nat} {ce : Nat → va_E} (Lk k' n : Nat) (mc : Int32) (hLk : lv Lk) (hk' : ¬ lv k') (ka : Nat) (hel0 : ce Lk = lOb mc (ad ka) (nI n)) (ko : Nat) (hko : lv ko) {ci : Nat} {q : vw_C} {fo : List Value} (ho : ce ko = .inr (ci, fo)) (hc : vwCl[ci]? = some q) (hca : (q.1, "java/lang/Object") ∈ kNc) (hne : ¬ ko = Lk) (hka : lv ka) (hkL : ¬ ka = Lk) (h5 : g5 n) {f : Nat → Option Nat} (he : ce ka = aRf cO n f) (hel : ∀ i y, i < n → f i = some y → ∃ ko fs, ¬ ko = Lk ∧ lv ko ∧ y = ad ko ∧ ce ko = .inr (ci, fs)) : Met l yJx4a65c_add_9ea2d wsJx4a65c_add_9ea2d { frames := 6, cells := 1, slots := 73, locals := 156 } (va_Pc [.ref (ad Lk), .ref (ad ko)] (kP D (tyL cI cZ cB cO cR cJ) Hb K lv ad ce)) (nQ D Hb lv ad k' (fun _ => some (.int 1)) (fun ad' => va_up (va_up ce k' (aRf cO (gCap (n + 1)) (va_up (fun i => if i < n then f i else none) n (some (ad' ko))))) Lk (lOb (mc + 1) (ad' k') (nI n + 1)))) 1 73 (gA Hb) := by
  have hb5 := g5_b h5
  refine Met.ofW (cc := cJx4a65c_add_9ea2d) (maxL := 2) (ret := (some .boolean)) (by decide) rfl ?_
  intro p0 e0 s0 m0 args below meth c0 s₁ B hml hv
  obtain ⟨rfl, hG, hK, hE⟩ := hv
  have hx := B.exec
  have hb := B.bytes
  have hr := B.returns
  have hts := atoms_spec (ws := wsJx4a65c_add_9ea2d) B.pre
  have hown : s0.vm.findClass RJx4a65c = some m0.cls := findClass_of_methodNamed B.named
  have hlocks := B.notSynchronized
  have S : kX p0 m0 c0 cJx4a65c_add_9ea2d 2 s0 _ wsJx4a65c_add_9ea2d RJx4a65c D (tyL cI cZ cB cO cR cJ) Hb K := ⟨⟨hx, hb, hml, hown, hts⟩, hK, hE⟩
  obtain ⟨-, -, hCa, -, -, -, -, -, -, hEm, hEa, hMi, hAO, hDc, -⟩ := hE
  have hL : gL Hb [] := gL.nil
  have hH := hG.2.2.2.2
  have hl := lv_entry ([.ref (ad Lk), .ref (ad ko)]) (n := 2) (Nat.le_of_ble_eq_true rfl)
  rw [lg_entry_eq]
  generalize (lg_sl ([.ref (ad Lk), .ref (ad ko)]) ++ List.replicate (2 - (lg_sl ([.ref (ad Lk), .ref (ad ko)])).length) Slot.unset).toArray = ls at hl ⊢
  have hl : lv_has ls 2 [(0, .ref (ad Lk)), (1, .ref (ad ko))] := hl
  refine lv_aload_n hx hb dJx4a65c_add_9ea2d_0 rfl (lv_at hl 0 rfl) ?_
  refine lv_dup hx hb dJx4a65c_add_9ea2d_1 rfl ?_
  refine g_get (ref := "java/util/ArrayList") (C := RJx4a65c) (T := TJx4a65c) (N := 3) (ci := 0) S.1 hK hG (fun w h => List.mem_cons_of_mem _ (List.mem_append_right _ h)) Lk hLk hel0 rfl 0 (by decide) (hts (.fieldLink RJx4a65c 63 "java/util/ArrayList" "modCount" "I") (by decide +kernel)) (fun x h => u_same (hts (.sameField "java/util/ArrayList" "java/util/AbstractList" "modCount" "I") (by decide +kernel)) x h) rfl dJx4a65c_add_9ea2d_2 ?_
  refine lv_iconst (v := 1) hx hb dJx4a65c_add_9ea2d_5 (by decide) ?_
  refine lv_iadd hx hb dJx4a65c_add_9ea2d_6 ?_
  refine g_put (ref := "java/util/ArrayList") (C := RJx4a65c) (T := TJx4a65c) (N := 3) (ci := 0) (ty := .int) S.1 hK hG hL (fun w h => List.mem_cons_of_mem _ (List.mem_append_right _ h)) tyJx4a65c tyJx4a65c_ok nmJx4a65c Lk hLk hel0 rfl 0 (by decide) (hts (.fieldLink RJx4a65c 63 "java/util/ArrayList" "modCount" "I") (by decide +kernel)) (fun x h => u_same (hts (.sameField "java/util/ArrayList" "java/util/AbstractList" "modCount" "I") (by decide +kernel)) x h) rfl (by decide +kernel) rfl rfl (Nat.le_of_ble_eq_true rfl) dJx4a65c_add_9ea2d_7 (fun H1 locs1 hG1 hL1 => ?_)
  refine lv_aload_n hx hb dJx4a65c_add_9ea2d_10 rfl (lv_at hl 0 rfl) ?_
  refine lv_aload_n hx hb dJx4a65c_add_9ea2d_11 rfl (lv_at hl 1 rfl) ?_
  refine lv_aload_n hx hb dJx4a65c_add_9ea2d_12 rfl (lv_at hl 0 rfl) ?_
  refine k_ga (C := RJx4a65c) (T := TJx4a65c) (N := 3) (ci := 0) (v := .ref (ad ka)) S hG1 (fun w h => List.mem_cons_of_mem _ (List.mem_append_right _ h)) Lk hLk (va_up_self _ _ _) rfl 1 (by decide) rfl (hts (.fieldLink RJx4a65c 9 "java/util/ArrayList" "elementData" "[Ljava/lang/Object;") (by decide +kernel)) rfl dJx4a65c_add_9ea2d_13 ?_
  refine lv_aload_n hx hb dJx4a65c_add_9ea2d_16 rfl (lv_at hl 0 rfl) ?_
  refine k_gi (C := RJx4a65c) (T := TJx4a65c) (N := 3) (ci := 0) (v := nI n) S hG1 (fun w h => List.mem_cons_of_mem _ (List.mem_append_right _ h)) Lk hLk (va_up_self _ _ _) rfl 2 (by decide) rfl (hts (.fieldLink RJx4a65c 48 "java/util/ArrayList" "size" "I") (by decide +kernel)) rfl rfl dJx4a65c_add_9ea2d_17 ?_
  have hLn : ¬ k' = Lk := fun z => hk' (z ▸ hLk)
  have hg := c_growA (l := l) (ad := ad) (cO := cO) (D := D) (Hb := Hb) (K := K) (cI := cI) (cZ := cZ) (cB := cB) (cR := cR) (cJ := cJ) (ce := (va_up ce Lk (lOb (mc + 1) (ad ka) (nI n)))) hLk (va_up_self _ _ _) (c_growN Lk ka k' n (mc + 1) hLk hka hk' h5 (va_up_self _ _ _) ((va_up_ne _ _ hkL).trans he) hc hca (fun i y hi hy => by { obtain ⟨k1, fs, a1, a2, a3, a4⟩ := hel i y hi hy; exact ⟨k1, fs, a2, a3, (va_up_ne _ _ a1).trans a4⟩ }))
  refine n_callV (n := 3) (As := [.ref (ad ko), .ref (ad ka), .int (nI n)]) (rest := [])  (k := Lk) (ci := 0) S hG1 hL1 hLk (va_up_self _ _ _) rfl (c_add3N (ce := (va_up ce Lk (lOb (mc + 1) (ad ka) (nI n)))) hLk hk' (by omega) (by omega) ka hka ((va_up_ne _ _ hkL).trans he) (va_up_self _ _ _) ko hko ((va_up_ne _ _ hne).trans ho) hc hca hne hg) gJx4a65c_add_9ea2d_Jx4a65c_add_72be8 rfl ⟨rfl, rfl⟩ (by decide +kernel) ⟨(Nat.le_of_ble_eq_true rfl), (Nat.le_of_ble_eq_true rfl)⟩ rfl hl.1 rfl (Nat.le_of_ble_eq_true rfl) dJx4a65c_add_9ea2d_20 ⟨(Nat.le_of_ble_eq_true rfl), (Nat.le_of_ble_eq_true rfl)⟩ (fun ad1 H2 locs2 ha hG2 hL2 => ?_)
  refine lv_iconst (v := 1) hx hb dJx4a65c_add_9ea2d_23 (by decide) ?_
  exact n_zret S.1 hr hlocks (by decide) hG2 hL2 ha rfl (fun _ h => h) (by { rw [va_up_sw ce (fun z => hLn z.symm), va_up_tw] }) dJx4a65c_add_9ea2d_24 (Nat.le_of_ble_eq_true rfl) (Nat.le_of_ble_eq_true rfl)

set_option maxHeartbeats 1000000 in
set_option maxRecDepth 100000 in
theorem c_addP {l : Launch} {D : va_G} {cI cZ cB cO cR cJ : ClassId} {Hb : Heap} {K : kTx} {lv : Nat → Prop} {ad : Nat → Nat} {ce : Nat → va_E} (Lk ka n N' : Nat) (mc : Int32) (hLk : lv Lk) (hka : lv ka) (hkL : ¬ ka = Lk) (hn : n < N') (hN : N' ≤ 73) (hel0 : ce Lk = lOb mc (ad ka) (nI n)) {f : Nat → Option Nat} (he : ce ka = aRf cO N' f) (ko : Nat) (hko : lv ko) {ci : Nat} {q : vw_C} {fo : List Value} (ho : ce ko = .inr (ci, fo)) (hc : vwCl[ci]? = some q) (hca : (q.1, "java/lang/Object") ∈ kNc) (hne : ¬ ko = Lk) : Met l yJx4a65c_add_9ea2d wsJx4a65c_add_9ea2d { frames := 6, cells := 1, slots := 73, locals := 156 } (va_Pc [.ref (ad Lk), .ref (ad ko)] (kP D (tyL cI cZ cB cO cR cJ) Hb K lv ad ce)) (gQ D Hb lv ad (some (.int 1)) (va_up (va_up ce ka (aRf cO N' (va_up f n (some (ad ko))))) Lk (lOb (mc + 1) (ad ka) (nI n + 1)))) 1 73 (gA Hb) := by
  refine Met.ofW (cc := cJx4a65c_add_9ea2d) (maxL := 2) (ret := (some .boolean)) (by decide) rfl ?_
  intro p0 e0 s0 m0 args below meth c0 s₁ B hml hv
  obtain ⟨rfl, hG, hK, hE⟩ := hv
  have hx := B.exec
  have hb := B.bytes
  have hr := B.returns
  have hts := atoms_spec (ws := wsJx4a65c_add_9ea2d) B.pre
  have hown : s0.vm.findClass RJx4a65c = some m0.cls := findClass_of_methodNamed B.named
  have hlocks := B.notSynchronized
  have S : kX p0 m0 c0 cJx4a65c_add_9ea2d 2 s0 _ wsJx4a65c_add_9ea2d RJx4a65c D (tyL cI cZ cB cO cR cJ) Hb K := ⟨⟨hx, hb, hml, hown, hts⟩, hK, hE⟩
  obtain ⟨-, -, hCa, -, -, -, -, -, -, hEm, hEa, hMi, hAO, hDc, -⟩ := hE
  have hL : gL Hb [] := gL.nil
  have hH := hG.2.2.2.2
  have hl := lv_entry ([.ref (ad Lk), .ref (ad ko)]) (n := 2) (Nat.le_of_ble_eq_true rfl)
  rw [lg_entry_eq]
  generalize (lg_sl ([.ref (ad Lk), .ref (ad ko)]) ++ List.replicate (2 - (lg_sl ([.ref (ad Lk), .ref (ad ko)])).length) Slot.unset).toArray = ls at hl ⊢
  have hl : lv_has ls 2 [(0, .ref (ad Lk)), (1, .ref (ad ko))] := hl
  refine lv_aload_n hx hb dJx4a65c_add_9ea2d_0 rfl (lv_at hl 0 rfl) ?_
  refine lv_dup hx hb dJx4a65c_add_9ea2d_1 rfl ?_
  refine g_get (ref := "java/util/ArrayList") (C := RJx4a65c) (T := TJx4a65c) (N := 3) (ci := 0) S.1 hK hG (fun w h => List.mem_cons_of_mem _ (List.mem_append_right _ h)) Lk hLk hel0 rfl 0 (by decide) (hts (.fieldLink RJx4a65c 63 "java/util/ArrayList" "modCount" "I") (by decide +kernel)) (fun x h => u_same (hts (.sameField "java/util/ArrayList" "java/util/AbstractList" "modCount" "I") (by decide +kernel)) x h) rfl dJx4a65c_add_9ea2d_2 ?_
  refine lv_iconst (v := 1) hx hb dJx4a65c_add_9ea2d_5 (by decide) ?_
  refine lv_iadd hx hb dJx4a65c_add_9ea2d_6 ?_
  refine g_put (ref := "java/util/ArrayList") (C := RJx4a65c) (T := TJx4a65c) (N := 3) (ci := 0) (ty := .int) S.1 hK hG hL (fun w h => List.mem_cons_of_mem _ (List.mem_append_right _ h)) tyJx4a65c tyJx4a65c_ok nmJx4a65c Lk hLk hel0 rfl 0 (by decide) (hts (.fieldLink RJx4a65c 63 "java/util/ArrayList" "modCount" "I") (by decide +kernel)) (fun x h => u_same (hts (.sameField "java/util/ArrayList" "java/util/AbstractList" "modCount" "I") (by decide +kernel)) x h) rfl (by decide +kernel) rfl rfl (Nat.le_of_ble_eq_true rfl) dJx4a65c_add_9ea2d_7 (fun H1 locs1 hG1 hL1 => ?_)
  refine lv_aload_n hx hb dJx4a65c_add_9ea2d_10 rfl (lv_at hl 0 rfl) ?_
  refine lv_aload_n hx hb dJx4a65c_add_9ea2d_11 rfl (lv_at hl 1 rfl) ?_
  refine lv_aload_n hx hb dJx4a65c_add_9ea2d_12 rfl (lv_at hl 0 rfl) ?_
  refine k_ga (C := RJx4a65c) (T := TJx4a65c) (N := 3) (ci := 0) (v := .ref (ad ka)) S hG1 (fun w h => List.mem_cons_of_mem _ (List.mem_append_right _ h)) Lk hLk (va_up_self _ _ _) rfl 1 (by decide) rfl (hts (.fieldLink RJx4a65c 9 "java/util/ArrayList" "elementData" "[Ljava/lang/Object;") (by decide +kernel)) rfl dJx4a65c_add_9ea2d_13 ?_
  refine lv_aload_n hx hb dJx4a65c_add_9ea2d_16 rfl (lv_at hl 0 rfl) ?_
  refine k_gi (C := RJx4a65c) (T := TJx4a65c) (N := 3) (ci := 0) (v := nI n) S hG1 (fun w h => List.mem_cons_of_mem _ (List.mem_append_right _ h)) Lk hLk (va_up_self _ _ _) rfl 2 (by decide) rfl (hts (.fieldLink RJx4a65c 48 "java/util/ArrayList" "size" "I") (by decide +kernel)) rfl rfl dJx4a65c_add_9ea2d_17 ?_
  refine k_callV (n := 3) (As := [.ref (ad ko), .ref (ad ka), .int (nI n)]) (rest := []) (st1 := []) (k := Lk) (ci := 0) S hG1 hL1 hLk (va_up_self _ _ _) rfl (c_add3P (ce := (va_up ce Lk (lOb (mc + 1) (ad ka) (nI n)))) Lk ka n N' (mc + 1) hLk hka hkL hn hN (va_up_self _ _ _) ((va_up_ne _ _ hkL).trans he) ko hko ((va_up_ne _ _ hne).trans ho) hc hca hne) gJx4a65c_add_9ea2d_Jx4a65c_add_72be8 rfl ⟨rfl, rfl⟩ (by decide +kernel) ⟨(Nat.le_of_ble_eq_true rfl), (Nat.le_of_ble_eq_true rfl)⟩ rfl hl.1 rfl (Nat.le_of_ble_eq_true rfl) dJx4a65c_add_9ea2d_20 ⟨(Nat.le_of_ble_eq_true rfl), (Nat.le_of_ble_eq_true rfl)⟩ rfl (fun H2 locs2 hG2 hL2 => ?_)
  refine lv_iconst (v := 1) hx hb dJx4a65c_add_9ea2d_23 (by decide) ?_
  exact W.widen (Nat.le_of_ble_eq_true rfl) (Nat.le_of_ble_eq_true rfl) (W.zret hx hb hr (by decide) (fun t ht _ => ⟨rfl, by { rw [ht]; rw [va_up_sw _ (fun z => hkL z.symm), va_up_tw] at hG2; exact hG2 }⟩) hL2 dJx4a65c_add_9ea2d_24 hlocks)
