/-! the law: the script, what is at hand in each case -/
section LR2
variable {p : Program} {l : Launch} {e : Env} {R : Room} {s : State} {m : MethodId} {args : Array Value} {below : List Frame} {meth : Method} {c : Code} {H : Heap} {locs : List Loc} {cells slots : Nat} {Q : State → Prop}
variable {cI cZ cB cO cR cJ : ClassId} {cc : ByteArray} {pc nL : Nat} {ls : Array Slot} {rest st0 : List Value} {D : va_G} {Hb : Heap} {K : kTx} {ad : Nat → Nat} {o : Nat → va_E} {Ts : List Cond} {own : String} {f : Nat → Int64} {sM sC : Nat → Int32} {rM rC : Nat → Nat → Int32} {lv : Nat → Prop} {ce : Nat → va_E} {b L : Nat} {xs : Nat → Int32}
theorem l_sld (hexec : p.tables.exec = Jvm.exec) (hb : c.code = cc) (hX : va_X b L xs s Hb) (hbl : b < Hb.size) (hG : gW D Hb lv ad ce H) {i v : Int32} (hin : vp_in i L) (hv : xs i.toNatClampNeg = v) (hdg : decode cc pc = .ok (.iaload, 1))
    (kk : W p l e R s m args below meth c H locs cells slots Q (F0 m (pc + 1) ls (.int v :: rest))) : W p l e R s m args below meth c H locs cells slots Q (F0 m pc ls (.int i :: .ref b :: rest)) := by
  subst hv
  obtain ⟨scr, h1, h2, h3, h4, h5⟩ := hX
  have hlt : i.toNatClampNeg < L := Nat.not_le.mp fun q => hin (Or.inr q)
  exact W.iald (v := .int (xs i.toNatClampNeg)) hexec hb (by rw [hG.2.2.2.2 b hbl]; exact h1) h2 h3 (by rw [h4]; exact hin) (h5 _ hlt) rfl rfl hdg kk
theorem l_slen (hexec : p.tables.exec = Jvm.exec) (hb : c.code = cc) (hX : va_X b L xs s Hb) (hbl : b < Hb.size) (hG : gW D Hb lv ad ce H) (hdg : decode cc pc = .ok (.arraylength, 1))
    (kk : W p l e R s m args below meth c H locs cells slots Q (F0 m (pc + 1) ls (.int (nI L) :: rest))) : W p l e R s m args below meth c H locs cells slots Q (F0 m pc ls (.ref b :: rest)) := by
  obtain ⟨scr, h1, h2, h3, h4, h5⟩ := hX
  exact W.alen (n := nI L) hexec hb (by rw [hG.2.2.2.2 b hbl]; exact h1) h2 (by rw [h4] <;> rfl) rfl rfl hdg kk
theorem l_ix {i k : Nat} {kv : Int32} (hk : kv = nI k) (h : i + k < L) (hL : L ≤ 4096) : vp_in (nI i + kv) L ∧ (nI i + kv).toNatClampNeg = i + k := by
  rw [hk, nI_add]
  exact ⟨vp_in_nI h (by omega), nI_clamp (by omega)⟩
/-- what stands through the law -/
def lC (p : Program) (m : MethodId) (c : Code) (s : State) (b L : Nat) (xs : Nat → Int32) (D : va_G) (cI cZ cB cO cR cJ : ClassId) (K : kTx) : Prop := kX p m c cL_law 7 s #[.ref b] wsL_law RL D (tyL cI cZ cB cO cR cJ) s.heap K ∧ hNc s ∧ va_X b L xs s s.heap ∧ b < s.heap.size ∧ L ≤ 4096
/-- an int of the script: i + k, k small -/
theorem l_argI (C : lC p m c s b L xs D cI cZ cB cO cR cJ K) (hG : gW D s.heap lv ad ce H) {vs : List (Nat × Value)} (hl : lv_has ls 7 vs) {k0 k4 i : Nat} (h0 : vs[k0]? = some (0, .ref b)) (h4 : vs[k4]? = some (4, .int (nI i))) (k : Nat) {kz : Int} {kv : Int32} (hkv : kv = nI k) (hkz : Int32.ofInt kz = kv) (hk : i + k < L)
    (d1 : decode cL_law pc = .ok (.aload_n 0, 1)) (d2 : decode cL_law (pc + 1) = .ok (.iload 4, 2)) (d3 : decode cL_law (pc + 3) = .ok (.iconst kz, 1)) (d4 : decode cL_law (pc + 4) = .ok (.iadd, 1)) (d5 : decode cL_law (pc + 5) = .ok (.iaload, 1))
    (kk : W p l e R s m #[.ref b] below meth c H locs cells slots Q (F0 m (pc + 6) ls (.int (xs (i + k)) :: rest))) : W p l e R s m #[.ref b] below meth c H locs cells slots Q (F0 m pc ls rest) := by
  obtain ⟨⟨⟨hx, hb, -⟩, -⟩, -, hX, hbl, hL⟩ := C
  have hi := l_ix hkv hk hL
  refine lv_aload_n hx hb d1 rfl (lv_at hl k0 h0) ?_
  refine lv_iload hx hb d2 (lv_at hl k4 h4) ?_
  refine lv_iconst (v := kv) hx hb d3 hkz ?_
  refine lv_iadd hx hb d4 ?_
  exact l_sld hx hb hX hbl hG hi.1 (by rw [hi.2]) d5 kk
theorem l_argB (C : lC p m c s b L xs D cI cZ cB cO cR cJ K) (hG : gW D s.heap lv ad ce H) {vs : List (Nat × Value)} (hl : lv_has ls 7 vs) {k0 k4 i : Nat} (h0 : vs[k0]? = some (0, .ref b)) (h4 : vs[k4]? = some (4, .int (nI i))) (k : Nat) {kz : Int} {kv : Int32} (hkv : kv = nI k) (hkz : (Int8.ofInt kz).toInt32 = kv) (hk : i + k < L)
    (d1 : decode cL_law pc = .ok (.aload_n 0, 1)) (d2 : decode cL_law (pc + 1) = .ok (.iload 4, 2)) (d3 : decode cL_law (pc + 3) = .ok (.bipush kz, 2)) (d4 : decode cL_law (pc + 5) = .ok (.iadd, 1)) (d5 : decode cL_law (pc + 6) = .ok (.iaload, 1))
    (kk : W p l e R s m #[.ref b] below meth c H locs cells slots Q (F0 m (pc + 7) ls (.int (xs (i + k)) :: rest))) : W p l e R s m #[.ref b] below meth c H locs cells slots Q (F0 m pc ls rest) := by
  obtain ⟨⟨⟨hx, hb, -⟩, -⟩, -, hX, hbl, hL⟩ := C
  have hi := l_ix hkv hk hL
  refine lv_aload_n hx hb d1 rfl (lv_at hl k0 h0) ?_
  refine lv_iload hx hb d2 (lv_at hl k4 h4) ?_
  refine lv_bipush (v := kv) hx hb d3 hkz ?_
  refine lv_iadd hx hb d4 ?_
  exact l_sld hx hb hX hbl hG hi.1 (by rw [hi.2]) d5 kk
/-- `!= 0` as an int -/
theorem l_bool (hx : p.tables.exec = Jvm.exec) (hb : c.code = cL_law) {x : Int32} (d1 : decode cL_law pc = .ok (.ifCond .eq 7, 3)) (d2 : decode cL_law (pc + 3) = .ok (.iconst 1, 1)) (d3 : decode cL_law (pc + 4) = .ok (.goto 4, 3)) (d4 : decode cL_law (pc + 7) = .ok (.iconst 0, 1))
    (kk : W p l e R s m args below meth c H locs cells slots Q (F0 m (pc + 8) ls (.int (if x = 0 then 0 else 1) :: rest))) : W p l e R s m args below meth c H locs cells slots Q (F0 m pc ls (.int x :: rest)) := by
  refine lv_if_eq (tgt := pc + 7) hx hb d1 (by omega) (fun z => ?_) (fun z => ?_)
  · rw [if_pos z] at kk
    exact lv_iconst (v := 0) hx hb d4 (by decide) kk
  · rw [if_neg z] at kk
    refine lv_iconst (v := 1) hx hb d2 (by decide) ?_
    exact lv_goto (tgt := pc + 8) hx hb d3 (by omega) kk
/-- behind the reference's call: what both threw, what both answered -/
theorem l_tailV (C : lC p m c s b L xs D cI cZ cB cO cR cJ K) (hG : gW D s.heap (lvC lL0 sC) ad (lW o ad K.2.2.1 cI cZ cB cO cR cJ f sM rM sC rC) H) (hL : gL s.heap locs) {k5 vM : Int32} {a1 i : Nat} (hl : lv_has ls 7 [(5, .int k5), (0, .ref b), (1, .ref a1), (2, .ref (ad 0)), (3, .ref (ad 99)), (4, .int (nI i))]) (h5 : k5 = sM 0) (hv : k5 = 0 → f 0 = vM.toInt64) (hcs : cells ≤ 601024 ∧ slots ≤ 7293034) {off : Int} (ho : (((pc + 30 : Nat) : Int)) + off = ((1362 : Nat) : Int))
    (d1 : decode cL_law pc = .ok (.istore 6, 2)) (d2 : decode cL_law (pc + 2) = .ok (.aload_n 2, 1)) (d3 : decode cL_law (pc + 3) = .ok (.invokevirtual 90, 3)) (d4 : decode cL_law (pc + 6) = .ok (.iload 5, 2)) (d5 : decode cL_law (pc + 8) = .ok (.if_icmp .eq 5, 3)) (d6 : decode cL_law (pc + 13) = .ok (.iload 5, 2)) (d7 : decode cL_law (pc + 15) = .ok (.ifCond .ne 15, 3)) (d8 : decode cL_law (pc + 18) = .ok (.aload_n 3, 1)) (d9 : decode cL_law (pc + 19) = .ok (.iconst 0, 1)) (d10 : decode cL_law (pc + 20) = .ok (.laload, 1)) (d11 : decode cL_law (pc + 21) = .ok (.iload 6, 2)) (d12 : decode cL_law (pc + 23) = .ok (.i2l, 1)) (d13 : decode cL_law (pc + 24) = .ok (.lcmp, 1)) (d14 : decode cL_law (pc + 25) = .ok (.ifCond .eq 5, 3)) (d15 : decode cL_law (pc + 30) = .ok (.goto off, 3))
    (kk : ∀ (H1 : Heap) (locs1 : List Loc) (ls1 : Array Slot), gW D s.heap (lvC lL0 sC) ad (lW o ad K.2.2.1 cI cZ cB cO cR cJ f sM rM sC rC) H1 → gL s.heap locs1 → lv_has ls1 7 [(0, .ref b), (1, .ref a1), (2, .ref (ad 0)), (3, .ref (ad 99)), (4, .int (nI i))] → W p l e room_1 s m #[.ref b] below meth c H1 locs1 cells slots Q (F0 m 1362 ls1 [])) : W p l e room_1 s m #[.ref b] below meth c H locs cells slots Q (F0 m pc ls [.int vM]) := by
  have hx := C.1.1.1
  have hb := C.1.1.2.1
  refine lv_istore (lv' := [(6, .int vM), (5, .int k5), (0, .ref b), (1, .ref a1), (2, .ref (ad 0)), (3, .ref (ad 99)), (4, .int (nI i))]) hx hb d1 hl (by decide) rfl (fun ls hl => ?_)
  refine lv_aload_n hx hb d2 rfl (lv_at hl 4 rfl) ?_
  refine l_mod (n := 0) (As := []) (rest := []) C.1 hG hL (c_X10_thrown lM_lv sM rM) gL_law_X10_thrown rfl (by decide +kernel) ⟨by decide, by decide⟩ rfl hl.1 rfl (Nat.le_of_ble_eq_true rfl) d3 hcs (fun H1 locs1 hG hL => ?_)
  show W p l e room_1 s m #[.ref b] below meth c H1 locs1 cells slots Q (F0 m (pc + 6) ls [.int (sM 0)])
  refine lv_iload hx hb d4 (lv_at hl 1 rfl) ?_
  refine lv_icmp_eq (tgt := pc + 13) hx hb d5 (by omega) (fun _ => ?_) (fun z => absurd h5.symm z)
  refine lv_iload hx hb d6 (lv_at hl 1 rfl) ?_
  refine lv_if_ne (tgt := pc + 30) hx hb d7 (by omega) (fun _ => ?_) (fun z => ?_)
  · exact lv_goto (tgt := 1362) hx hb d15 ho (kk H1 locs1 ls hG hL (lv_sub hl [2, 3, 4, 5, 6] rfl))
  · refine lv_aload_n hx hb d8 rfl (lv_at hl 5 rfl) ?_
    refine lv_iconst (v := 0) hx hb d9 (by decide) ?_
    refine g_lald C.1.1 C.1.2.1 hG 99 (Or.inl ⟨by decide, lL0_99⟩) 5 lW_out' rfl (i := 0) (by unfold vp_in; decide) d10 ?_
    refine lv_iload hx hb d11 (lv_at hl 0 rfl) ?_
    refine lv_i2l hx hb d12 rfl ?_
    refine W.lcmp hx hb d13 ?_
    refine lv_if_eq (tgt := pc + 30) hx hb d14 (by omega) (fun _ => ?_) (fun z9 => absurd ?_ z9)
    · exact lv_goto (tgt := 1362) hx hb d15 ho (kk H1 locs1 ls hG hL (lv_sub hl [2, 3, 4, 5, 6] rfl))
    · show lg_cmp (f 0) vM.toInt64 = 0
      rw [hv z]
      exact (lg_cmp_eq _ _).mpr rfl
/-- .. of a call without an answer -/
theorem l_tailW (C : lC p m c s b L xs D cI cZ cB cO cR cJ K) (hG : gW D s.heap (lvC lL0 sC) ad (lW o ad K.2.2.1 cI cZ cB cO cR cJ f sM rM sC rC) H) (hL : gL s.heap locs) {k5 : Int32} {a1 i : Nat} (hl : lv_has ls 7 [(5, .int k5), (0, .ref b), (1, .ref a1), (2, .ref (ad 0)), (3, .ref (ad 99)), (4, .int (nI i))]) (h5 : k5 = sM 0) (hcs : cells ≤ 601024 ∧ slots ≤ 7293034) {off : Int} (ho : (((pc + 11 : Nat) : Int)) + off = ((1362 : Nat) : Int))
    (d2 : decode cL_law pc = .ok (.aload_n 2, 1)) (d3 : decode cL_law (pc + 1) = .ok (.invokevirtual 90, 3)) (d4 : decode cL_law (pc + 4) = .ok (.iload 5, 2)) (d5 : decode cL_law (pc + 6) = .ok (.if_icmp .eq 5, 3)) (d15 : decode cL_law (pc + 11) = .ok (.goto off, 3))
    (kk : ∀ (H1 : Heap) (locs1 : List Loc) (ls1 : Array Slot), gW D s.heap (lvC lL0 sC) ad (lW o ad K.2.2.1 cI cZ cB cO cR cJ f sM rM sC rC) H1 → gL s.heap locs1 → lv_has ls1 7 [(0, .ref b), (1, .ref a1), (2, .ref (ad 0)), (3, .ref (ad 99)), (4, .int (nI i))] → W p l e room_1 s m #[.ref b] below meth c H1 locs1 cells slots Q (F0 m 1362 ls1 [])) : W p l e room_1 s m #[.ref b] below meth c H locs cells slots Q (F0 m pc ls []) := by
  have hx := C.1.1.1
  have hb := C.1.1.2.1
  refine lv_aload_n hx hb d2 rfl (lv_at hl 3 rfl) ?_
  refine l_mod (n := 0) (As := []) (rest := []) C.1 hG hL (c_X10_thrown lM_lv sM rM) gL_law_X10_thrown rfl (by decide +kernel) ⟨by decide, by decide⟩ rfl hl.1 rfl (Nat.le_of_ble_eq_true rfl) d3 hcs (fun H1 locs1 hG hL => ?_)
  show W p l e room_1 s m #[.ref b] below meth c H1 locs1 cells slots Q (F0 m (pc + 4) ls [.int (sM 0)])
  refine lv_iload hx hb d4 (lv_at hl 0 rfl) ?_
  refine lv_icmp_eq (tgt := pc + 11) hx hb d5 (by omega) (fun _ => ?_) (fun z => absurd h5.symm z)
  exact lv_goto (tgt := 1362) hx hb d15 ho (kk H1 locs1 ls hG hL (lv_sub hl [1, 2, 3, 4, 5] rfl))
end LR2
