/-! cells that are made: the address is known ahead (the heap's size), so ad stays -/
theorem gW.pushA {D : va_G} {Hb : Heap} {lv : Nat → Prop} {ad : Nat → Nat} {ce : Nat → va_E} {H H1 : Heap} (hG : gW D Hb lv ad ce H) {k : Nat} (hk : ¬ lv k) (hq : ad k = H.size) {e : va_E} (he : va_at D vwCl (ad k, e) H1) (hz : H1.size = H.size + 1) (oq : ∀ q : Nat, q < H.size → H1[q]? = H[q]?) : gW D Hb (fun j => lv j ∨ j = k) ad (va_up ce k e) H1 := by
  have h := hG.push (k := k) hk (e := e) (H1 := H1) (by rw [← hq]; exact he) hz oq
  have e2 : va_up ad k H.size = ad := by
    funext j
    by_cases z : j = k
    · subst z; rw [va_up_self, hq]
    · rw [va_up_ne _ _ z]
  rwa [e2] at h
theorem gW.less {D : va_G} {Hb : Heap} {lv lv' : Nat → Prop} {ad : Nat → Nat} {ce : Nat → va_E} {H : Heap} (hG : gW D Hb lv ad ce H) (h : ∀ k, lv' k → lv k) : gW D Hb lv' ad ce H := ⟨fun k hk => hG.1 k (h k hk), fun k j hk hj => hG.2.1 k j (h k hk) (h j hj), fun k hk => hG.2.2.1 k (h k hk), hG.2.2.2⟩
section GAL
variable {p : Program} {l : Launch} {e : Env} {R : Room} {s : State} {m : MethodId} {args : Array Value} {below : List Frame} {meth : Method} {c : Code} {H : Heap} {locs : List Loc} {cells slots : Nat} {Q : State → Prop}
variable {cc : ByteArray} {pc nL : Nat} {ls : Array Slot} {rest st0 : List Value} {D : va_G} {tys : List (ClassId × FieldType)} {Hb : Heap} {lv : Nat → Prop} {ad : Nat → Nat} {ce : Nat → va_E} {Ts : List Cond} {own : String}
/-- a new array of plain values -/
theorem g_newa (S : CallFix p m c cc nL s args Ts own) (hK : va_K D vwCl tys s) (hG : gW D Hb lv ad ce H) {atype : ArrayType} (harr : (Cond.arrayClass (newarray.typeOf atype)).before args s = true) {cA : ClassId} (t0 : Nat) (ht : tys[t0]? = some (cA, newarray.typeOf atype)) (k : Nat) (hk : ¬ lv k) (hq : ad k = H.size)
    {n : Int32} {N' : Nat} {a0 : vp_A} (ha : ∀ cA : ClassId, vp_cell cA a0 = arrV cA N' (fun _ => defaultValue (newarray.typeOf atype))) (hn : ¬ n < 0) (hN : n.toNatClampNeg = N') (hbytes : N' * componentBytes (newarray.typeOf atype) ≤ 536870912) (hcells : cells + 1 ≤ R.cells) (hslots : slots + N' ≤ R.slots) (hdg : decode cc pc = .ok (.newarray atype, 2))
    (kk : ∀ (H1 : Heap), gW D Hb (fun j => lv j ∨ j = k) ad (va_up ce k (.inl (cA, a0))) H1 → H1.size = H.size + 1 → W p l e R s m args below meth c H1 locs (cells + 1) (slots + N') Q (F0 m (pc + 2) ls (.ref (ad k) :: rest))) : W p l e R s m args below meth c H locs cells slots Q (F0 m pc ls (.int n :: rest)) := by
  refine va_newaK S.1 S.2.1 harr rfl hdg rfl hn hN hbytes hcells hslots rfl fun H1 cB e1 z1 o1 hAr hNm => ?_
  have hRA := (hK.2 t0 _ ht).2
  have hnm : s.vm.findClass ("[" ++ (newarray.typeOf atype).toString) = some cA := by cases atype <;> exact hRA
  have hc : cB = cA := Option.some.inj (hNm.symm.trans hnm)
  subst hc
  have w := kk H1 (hG.pushA hk hq (by show H1[ad k]? = some (vp_cell _ _); rw [hq, ha]; exact e1) z1 o1) z1
  rw [hq] at w
  exact w
/-- a final field in a constructor; the heap keeps its size -/
theorem g_putF (S : CallFix p m c cc nL s args Ts own) (hK : va_K D vwCl tys s) (hG : gW D Hb lv ad ce H) (hL : gL Hb locs) {ref C : String} {T : u_T} {N ci index : Nat} (hin : ∀ w ∈ u_ws C T N, w ∈ Ts) (ty0 : Nat → FieldType) (hty : ∀ k, k < N → parseFieldDescriptor (T k).2.2.1 = some (ty0 k)) (hnm : ∀ a, a < N → ∀ b, b < N → a ≠ b → (T a).2.1 ≠ (T b).2.1) (k : Nat) (hk : lv k) {fs : List Value} (he : ce k = .inr (ci, fs)) (hc : vwCl[ci]? = some (C, T, N)) (f : Nat) (hf : f < N) (hlink : (Cond.fieldLink own index ref (T f).2.1 (T f).2.2.1).before args s = true) (hsame : ∀ x, s.fieldFound? (T f).1 (T f).2.1 (T f).2.2.1 = some x → s.fieldFound? ref (T f).2.1 (T f).2.2.1 = some x) (hfin : (T f).2.2.2 = true) (hin2 : meth.name = "<init>") (hdecl : (T f).1 = own) {ty : FieldType} {v : Value} (hd : parseFieldDescriptor (T f).2.2.1 = some ty) (hn : narrow ty v = v) (hfit : fits ty v = true) (hl : f < fs.length) (hdg : decode cc pc = .ok (.putfield index, 3))
    (kk : ∀ (H1 : Heap) (locs1 : List Loc), gW D Hb lv ad (va_up ce k (.inr (ci, fs.set f v))) H1 → gL Hb locs1 → H1.size = H.size → W p l e R s m args below meth c H1 locs1 cells slots Q (F0 m (pc + 3) ls rest)) : W p l e R s m args below meth c H locs cells slots Q (F0 m pc ls (v :: .ref (ad k) :: rest)) := by
  obtain ⟨hexec, hb, hml, hown, hts⟩ := S
  have hap := va_apart (own := own) hts hin ty0 hty hnm hK hc
  obtain ⟨r, h1, cell, q1, q2, q3, q4⟩ := (hG.one hk he) 0 _ rfl
  have hr : r = (C, T, N) := Option.some.inj (h1.symm.trans hc)
  subst hr
  obtain ⟨hS, hfc, kC, hkC, hkind⟩ := hK.1 ci _ hc
  obtain ⟨cf, kf, fi, fd, hi, hsl⟩ := hS f hf
  have hlay := hts _ (hin _ (u_in_lay hf))
  unfold u_lay at hlay
  rw [if_pos hfin] at hlay
  have hst := (u_facts hfc hkC (u_lays hts hin hf) hi).1
  have hcf : m.cls = cf := by
    obtain ⟨_, _, c', _, _, _, -, -, hf', -, -, -, hown2, -⟩ := Cond.laysFinal_spec hlay
    have e1 : c' = cf := by have := hi.symm.trans hf'; simp at this; exact this.1.symm
    rw [hdecl] at hown2
    rw [← e1]; exact Option.some.inj (hown.symm.trans hown2)
  have h6 := u_fits hfc hkC hkind (Or.inr hlay) hi hd hn hfit
  refine W.putFinK hexec hb hown hlink (hsame _ hi) hst hcf hin2 (by rw [q2]; exact h6) q1 q3 (by rw [hsl]; exact k2_hasslot (q4 f hf)) rfl rfl hdg fun H' e1 e2 e3 => ?_
  rw [hsl] at e1 ⊢
  exact kk H' _ (hG.set hk ⟨_, hc, t_OB.to (V := updV (vp_V fs) f v) ⟨_, e1, q2, q3, t_set q4 hap hf v⟩ (fun j _ => vp_updV_set hl v j)⟩ e2 e3) (hL.put (hG.2.2.1 k hk)) e2
/-- a new object -/
theorem g_new (S : CallFix p m c cc nL s args Ts own) (hK : va_K D vwCl tys s) (hG : gW D Hb lv ad ce H) {C : String} {T : u_T} {N ci index : Nat} (hin : ∀ w ∈ u_ws C T N, w ∈ Ts) (ty : Nat → FieldType) (hty : ∀ k, k < N → parseFieldDescriptor (T k).2.2.1 = some (ty k)) (hcl : (Cond.classLink own index C).before args s = true) (hinst : (Cond.instantiable C N).before args s = true) (hini : (Cond.initialized C).before args s = true) (hc : vwCl[ci]? = some (C, T, N)) (k : Nat) (hk : ¬ lv k) (hq : ad k = H.size) {fs : List Value} (hfs : ∀ j, j < N → defaultValue (ty j) = vp_V fs j) (hcells : cells + 1 ≤ R.cells) (hslots : slots + N ≤ R.slots) (hdg : decode cc pc = .ok (.new index, 3))
    (kk : ∀ (H1 : Heap), gW D Hb (fun j => lv j ∨ j = k) ad (va_up ce k (.inr (ci, fs))) H1 → H1.size = H.size + 1 → W p l e R s m args below meth c H1 locs (cells + 1) (slots + N) Q (F0 m (pc + 3) ls (.ref (ad k) :: rest))) : W p l e R s m args below meth c H locs cells slots Q (F0 m pc ls rest) := by
  obtain ⟨hexec, hb, hml, hown, hts⟩ := S
  have hKn := hK.1 ci _ hc
  refine W.newcK hexec hb hown hcl hinst hini rfl hdg hcells hslots hKn.2.1 rfl fun H1 kC hkC e1 z1 o1 => ?_
  have w := kk H1 (hG.pushA hk hq ⟨_, hc, by show t_OB (ad k) _ _ _ _ _; rw [hq]; exact (u_born ty hts hin hKn hkC e1 hty).to hfs⟩ z1 o1) z1
  rw [hq] at w
  exact w
end GAL
