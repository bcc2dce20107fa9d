/-! the class's constructors: the addresses are known ahead -/
def iK (k : Nat) : Nat := if 130 ≤ k ∧ k < 147 then k - 112 else if 150 ≤ k ∧ k < 167 then k - 112 else if k = 101 then 0 else if k = 112 then 1 else if k = 102 then 2 else if k = 103 then 3 else if k = 113 then 4 else if k = 114 then 5 else if k = 115 then 6 else if k = 116 then 7 else if k = 104 then 8 else if k = 117 then 9 else if k = 118 then 10 else if k = 105 then 11 else if k = 106 then 12 else if k = 107 then 13 else if k = 108 then 14 else if k = 109 then 15 else if k = 110 then 16 else if k = 119 then 17 else if k = 121 then 35 else if k = 111 then 36 else if k = 120 then 37 else if k = 122 then 55 else 0
theorem va_AOA.spec {ty : FieldType} {U : State} (h : va_AOA ty U) : ∃ comp c k, U.vm.findClass (FieldType.array ty).toString = some comp ∧ (U.vm.classes.findIdx? fun (x : Class) => match x.kind with | .array component _ => component == comp | _ => false) = some c ∧ U.vm.classes[c]? = some k ∧ k.kind = .array comp (.array ty) ∧ U.vm.findClass ("[" ++ (FieldType.array ty).toString) = some c := by
  unfold va_AOA Cond.before at h
  simp only [Cond.holds, Cond.value, beq_iff_eq] at h
  cases hc : U.vm.findClass (FieldType.array ty).toString with
  | none => simp [hc] at h
  | some comp =>
    simp only [hc, Option.bind_some, Option.bind_eq_some_iff, Option.map_eq_some_iff] at h
    obtain ⟨c, hi, k, hk, hb⟩ := h
    obtain ⟨hlt, hp, -⟩ := Array.findIdx?_eq_some_iff_getElem.mp hi
    have hkk : U.vm.classes[c] = k := (Array.getElem?_eq_some_iff.mp hk).2
    rw [hkk] at hp
    cases hkind : k.kind with
    | array component ty2 =>
      rw [hkind] at hb hp
      simp at hb hp
      exact ⟨comp, c, k, rfl, hi, hk, by rw [hkind, hp, hb.1], hb.2⟩
    | _ => rw [hkind] at hb; simp at hb
theorem va_AOA.moved {ty : FieldType} {u U : State} (hvm : u.vm.Alike U.vm) (h : va_AOA ty u) : va_AOA ty U := by
  obtain ⟨comp, c, k, h1, h2, h3, h4, h5⟩ := va_AOA.spec h
  obtain ⟨k', hk', he⟩ := hvm.2.2 _ _ h3
  have hi : (U.vm.classes.findIdx? fun (x : Class) => match x.kind with | .array component _ => component == comp | _ => false) = some c := by
    have a := va_idx_bare U.vm comp
    have b := va_idx_bare u.vm comp
    have e : U.vm.bare = u.vm.bare := by first | exact hvm.bare_eq | exact hvm.bare_eq.symm
    rw [e] at a
    exact (a.symm.trans b).trans h2
  have hkind : k'.kind = .array comp (.array ty) := by rw [he]; exact h4
  have f1 : U.vm.findClass (FieldType.array ty).toString = some comp := by rw [hvm.findClass]; exact h1
  have f2 : U.vm.findClass ("[" ++ (FieldType.array ty).toString) = some c := by rw [hvm.findClass]; exact h5
  unfold va_AOA Cond.before Cond.holds
  simp only [Cond.value]
  rw [f1, Option.bind_some]
  refine (congrArg (fun o : Option Nat => (o.bind (fun c => (U.vm.classes[c]?).map fun (k : Class) => match k.kind with | .array _ t => decide (t = FieldType.array ty) && decide (U.vm.findClass ("[" ++ (FieldType.array ty).toString) = some c) | _ => false) == some true)) hi).trans ?_
  simp [hk', hkind, f2]
/-- a constructor's start and its end -/
def kPz (D : va_G) (tys : List (ClassId × FieldType)) (Hb : Heap) (K : kTx) (lv : Nat → Prop) (ad : Nat → Nat) (ce : Nat → va_E) (n : Nat) (U : State) : Prop := U.heap.size = n ∧ kP D tys Hb K lv ad ce U ∧ va_AOA .int U
theorem kPz.blind {D : va_G} {tys : List (ClassId × FieldType)} {Hb : Heap} {K : kTx} {lv : Nat → Prop} {ad : Nat → Nat} {ce : Nat → va_E} {n : Nat} {av : List Value} : FrameBlind (va_Pc av (kPz D tys Hb K lv ad ce n)) := fun a U g mk q => by
  obtain ⟨q0, q1, q2, q3⟩ := q
  have h := kP.blind (av := av) a U g mk ⟨q0, q2⟩
  exact ⟨q0, q1, h.2, va_AOA.moved (u := U) (U := U.calling g mk a) (Vm.Alike.refl U.vm) q3⟩
def gQz (D : va_G) (Hb : Heap) (lv : Nat → Prop) (ad : Nat → Nat) (ce : Nat → va_E) (n : Nat) : Array Value → State → Outcome → State → Prop := fun a st oc t => gQ D Hb lv ad none ce a st oc t ∧ t.heap.size = n
def lvN (lv : Nat → Prop) (L : List Nat) (j : Nat) : Prop := lv j ∨ j ∈ L
theorem lvN_push {lv : Nat → Prop} {L : List Nat} {k : Nat} : ∀ j, lvN lv (k :: L) j → lvN lv L j ∨ j = k := fun j h => by
  rcases h with h | h
  · exact Or.inl (Or.inl h)
  · rcases List.mem_cons.mp h with h | h
    · exact Or.inr h
    · exact Or.inl (Or.inr h)
theorem lvN_0 {lv : Nat → Prop} : ∀ j, lvN lv [] j → lv j := fun j h => h.elim id (fun h => by cases h)
theorem lvN_app {lv : Nat → Prop} {L M : List Nat} : ∀ j, lvN lv (M ++ L) j → lvN (lvN lv L) M j := fun j h => by
  rcases h with h | h
  · exact Or.inl (Or.inl h)
  · rcases List.mem_append.mp h with h | h
    · exact Or.inr h
    · exact Or.inl (Or.inr h)
theorem gW.ext {D : va_G} {Hb : Heap} {lv nw : Nat → Prop} {ad : Nat → Nat} {ce ce' : Nat → va_E} {H H1 : Heap} (hG : gW D Hb lv ad ce H) (hz : H.size ≤ H1.size) (oq : ∀ q : Nat, q < H.size → H1[q]? = H[q]?) (hn : ∀ k, nw k → H.size ≤ ad k ∧ va_at D vwCl (ad k, ce' k) H1) (hi : ∀ k j, nw k → nw j → ad k = ad j → k = j) (he : ∀ k, lv k → ce' k = ce k) : gW D Hb (fun j => lv j ∨ nw j) ad ce' H1 := by
  obtain ⟨h1, h2, h3, h4, h5⟩ := hG
  have lt : ∀ j, lv j → ad j < H.size := fun j hj => (h1 j hj).lt
  refine ⟨fun j hj => ?_, fun i j hi' hj => ?_, fun j hj => ?_, by omega, fun q hq => ?_⟩
  · rcases hj with hj | hj
    · rw [he j hj]; exact (h1 j hj).kept (oq _ (lt j hj))
    · exact (hn j hj).2
  · rcases hi' with a | a <;> rcases hj with b | b
    · exact h2 i j a b
    · intro z; have q1 := lt i a; have q2 := (hn j b).1; omega
    · intro z; have q1 := lt j b; have q2 := (hn i a).1; omega
    · exact hi i j a b
  · rcases hj with hj | hj
    · exact h3 j hj
    · have := (hn j hj).1; omega
  · rw [oq q (by omega)]; exact h5 q hq
section IRW
variable {p : Program} {l : Launch} {e : Env} {R : Room} {s : State} {m : MethodId} {args : Array Value} {below : List Frame} {meth : Method} {c : Code} {H : Heap} {locs : List Loc} {cells slots : Nat} {Q : State → Prop}
variable {cI cZ cB cO cR cJ : ClassId} {cc : ByteArray} {pc nL : Nat} {ls : Array Slot} {rest st0 st1 : List Value} {D : va_G} {tys : List (ClassId × FieldType)} {Hb : Heap} {K : kTx} {lv lv' : Nat → Prop} {ad : Nat → Nat} {ce ce' : Nat → va_E} {Ts : List Cond} {own : String}
theorem z_back {mc ms n : Nat} {a : Array Value} (hr : va_Run p l e R s m args below meth c H locs cells slots mc ms (F0 m pc ls st0) rest (gQz D Hb lv' ad ce' n a) (gA Hb)) (hL : gL Hb locs)
    (kk : ∀ (H1 : Heap) (locs1 : List Loc), gW D Hb lv' ad ce' H1 → gL Hb locs1 → H1.size = n → W p l e R s m args below meth c H1 locs1 (cells + mc) (slots + ms) Q (F0 m (pc + 3) ls rest)) : W p l e R s m args below meth c H locs cells slots Q (F0 m pc ls st0) := by
  intro T hT X
  obtain ⟨v, st₀, t, T', L, h0, X', hLL, e1, e2, ⟨⟨hv, hg⟩, hz⟩, st⟩ := hr T hT X
  cases hv
  obtain ⟨t2, a1, b1⟩ := kk T'.heap (locs ++ L) (by rw [e1]; exact hg) (hL.app hLL) (by rw [e1]; exact hz) T' rfl X'
  exact ⟨t2, st t2 a1, b1⟩
theorem z_callI {y : MethodName} {ws : List Cond} {rm : Room} {mc ms n index maxL n0 n1 : Nat} {bytes : ByteArray} {As : List Value} {k : Nat}
    (S : kX p m c cc nL s args Ts own D tys Hb K) (hOA : va_AOA .int s) (hG : gW D Hb lv ad ce H) (hL : gL Hb locs) (hz : H.size = n0)
    (hM : Met l y ws rm (va_Pc (.ref (ad k) :: As) (kPz D tys Hb K lv ad ce n0)) (gQz D Hb lv' ad ce' n1) mc ms (gA Hb)) (cw : CallB R s args own index y bytes maxL none ws rm mc ms n ∧ y.name = "<init>" ∧ (Cond.instanceMethod y).before args s = true)
    (hn : As.length = n) (hsize : ls.size = nL) (hst : st0 = As.reverse ++ .ref (ad k) :: rest) (hW : (rest.map fun v => v.category).sum ≤ 8) (hdg : decode cc pc = .ok (.invokespecial index, 3)) (hf : cells + mc ≤ R.cells ∧ slots + ms ≤ R.slots)
    (kk : ∀ (H1 : Heap) (locs1 : List Loc), gW D Hb lv' ad ce' H1 → gL Hb locs1 → H1.size = n1 → W p l e R s m args below meth c H1 locs1 (cells + mc) (slots + ms) Q (F0 m (pc + 3) ls rest)) : W p l e R s m args below meth c H locs cells slots Q (F0 m pc ls st0) :=
  z_back (va_runI (b := ad k) S.1 hM cw ⟨kPz.blind, fun U hU hW => ⟨rfl, by rw [hU]; exact hz, ⟨by rw [hU]; exact hG, va_K.moved hW.alike S.2.1, kE.warm hW S.2.2⟩, va_AOA.moved hW.alike hOA⟩⟩ rfl hn hsize hst (by show 2 * 0 + _ ≤ 8; omega) hdg hf) hL kk
theorem z_callIN {y : MethodName} {ws : List Cond} {rm : Room} {mc ms n index maxL n0 n1 : Nat} {bytes : ByteArray} {As : List Value} {k : Nat}
    (S : kX p m c cc nL s args Ts own D tys Hb K) (hOA : va_AOA .int s) (hG : gW D Hb lv ad ce H) (hL : gL Hb locs) (hz : H.size = n0)
    (hM : Met l y ws rm (va_Pc (.ref (ad k) :: As) (kPz D tys Hb K lv ad ce n0)) (gQz D Hb lv' ad ce' n1) mc ms (gA Hb)) (cw : va_CN R s args own index y "SwarmLine" bytes maxL none ws rm mc ms n ∧ y.name = "<init>" ∧ (Cond.instanceMethod y).before args s = true)
    (hn : As.length = n) (hsize : ls.size = nL) (hst : st0 = As.reverse ++ .ref (ad k) :: rest) (hW : (rest.map fun v => v.category).sum ≤ 8) (hdg : decode cc pc = .ok (.invokespecial index, 3)) (hf : cells + mc ≤ R.cells ∧ slots + ms ≤ R.slots)
    (kk : ∀ (H1 : Heap) (locs1 : List Loc), gW D Hb lv' ad ce' H1 → gL Hb locs1 → H1.size = n1 → W p l e R s m args below meth c H1 locs1 (cells + mc) (slots + ms) Q (F0 m (pc + 3) ls rest)) : W p l e R s m args below meth c H locs cells slots Q (F0 m pc ls st0) :=
  z_back (va_runIN (b := ad k) S.1 hM cw ⟨kPz.blind, fun U hU hW => ⟨rfl, by rw [hU]; exact hz, ⟨by rw [hU]; exact hG, va_K.moved hW.alike S.2.1, kE.warm hW S.2.2⟩, va_AOA.moved hW.alike hOA⟩⟩ rfl hn hsize hst (by show 2 * 0 + _ ≤ 8; omega) hdg hf) hL kk
theorem z_callS {y : MethodName} {ws ws' : List Cond} {rm : Room} {mc ms n index maxL n0 n1 : Nat} {bytes : ByteArray} {ret : Option FieldType} {As : List Value}
    (S : kX p m c cc nL s args Ts own D tys Hb K) (hOA : va_AOA .int s) (hG : gW D Hb lv ad ce H) (hL : gL Hb locs) (hz : H.size = n0)
    (hM : Met l y ws rm (va_Pc As (kPz D tys Hb K lv ad ce n0)) (gQz D Hb lv' ad ce' n1) mc ms (gA Hb)) (gd : GoodIn Ts (va_wsS own index y ws)) (hw : ws = Cond.code y bytes maxL ret :: ws') (hrm : rm.cells = mc ∧ rm.slots = ms)
    (hd : y.cls ≠ "java/lang/invoke/MethodHandle" ∧ y.cls ≠ "java/lang/invoke/VarHandle" ∧ (parseMethodDescriptor y.desc).map (fun d => d.parameters.length) = some n) (hR : rm.frames + 1 ≤ R.frames ∧ 8 + (maxL + 11) + rm.locals ≤ R.locals)
    (hn : As.length = n) (hsize : ls.size = nL) (hst : st0 = As.reverse ++ rest) (hW : (rest.map fun v => v.category).sum ≤ 8) (hdg : decode cc pc = .ok (.invokestatic index, 3)) (hf : cells + mc ≤ R.cells ∧ slots + ms ≤ R.slots)
    (kk : ∀ (H1 : Heap) (locs1 : List Loc), gW D Hb lv' ad ce' H1 → gL Hb locs1 → H1.size = n1 → W p l e R s m args below meth c H1 locs1 (cells + mc) (slots + ms) Q (F0 m (pc + 3) ls rest)) : W p l e R s m args below meth c H locs cells slots Q (F0 m pc ls st0) :=
  z_back (va_runS S.1 hM (va_cwS n S.1.2.2.2.2 gd hw hrm.1 hrm.2 hd hR) ⟨kPz.blind, fun U hU hW => ⟨rfl, by rw [hU]; exact hz, ⟨by rw [hU]; exact hG, va_K.moved hW.alike S.2.1, kE.warm hW S.2.2⟩, va_AOA.moved hW.alike hOA⟩⟩ rfl hn hsize hst (by show 2 * 0 + _ ≤ 8; omega) hdg hf) hL kk
theorem z_vret {n mc ms : Nat} {lv1 : Nat → Prop} {ce1 : Nat → va_E} (S : CallFix p m c cc nL s args Ts own) (hr : meth.sig.returnType = none) (hlocks : meth.locks = false) (hG : gW D Hb lv ad ce H) (hL : gL Hb locs) (hz : H.size = n) (e0 : ∀ j, lv1 j → lv j) (e2 : ∀ j, lv1 j → ce1 j = ce j) (hdg : decode cc pc = .ok (.return_, 1)) (hc : cells ≤ mc) (hs : slots ≤ ms) : W p l e R s m args below meth c H locs cells slots (MQ below (gQz D Hb lv1 ad ce1 n) args s mc ms (gA Hb)) (F0 m pc ls []) :=
  W.widen hc hs (W.vret S.1 S.2.1 hr (fun t ht _ => ⟨⟨rfl, by rw [ht]; exact hG.re e0 (fun _ _ => rfl) e2⟩, by rw [ht]; exact hz⟩) hL hdg hlocks)
theorem g_iastz (S : CallFix p m c cc nL s args Ts own) (hK : va_K D vwCl tys s) (hG : gW D Hb lv ad ce H) (hL : gL Hb locs) (k : Nat) (hk : lv k) (t0 : Nat) {cA : ClassId} {n : Nat} {f : Nat → Int32} (ha : ce k = .inl (cA, n, .inl f)) (ht : tys[t0]? = some (cA, .int)) {i x : Int32} (hin : vp_in i n) (hdg : decode cc pc = .ok (.iastore, 1))
    (kk : ∀ (H1 : Heap) (locs1 : List Loc), gW D Hb lv ad (va_up ce k (.inl (cA, n, .inl (upd f i.toNatClampNeg x)))) H1 → gL Hb locs1 → H1.size = H.size → W p l e R s m args below meth c H1 locs1 cells slots Q (F0 m (pc + 1) ls rest)) : W p l e R s m args below meth c H locs cells slots Q (F0 m pc ls (.int x :: .int i :: .ref (ad k) :: rest)) := by
  refine W.iast S.1 S.2.1 ((hG.one hk ha) 0 _ rfl) ((hK.2 t0 _ ht).1 n (fun j => .int (f j))) (fun q => by cases q) (by show ¬ (i < 0 ∨ (arrV _ _ _).slots.size ≤ _); rw [arrV_size]; exact hin) rfl rfl hdg fun H1 e z oq => ?_
  refine kk H1 _ (hG.set hk ?_ z oq) (hL.put (hG.2.2.1 k hk)) z
  show H1[ad k]? = some (vp_cell _ _)
  rw [e, vp_cell_i, vp_cell_i, arrV_store]
  congr 2
  funext q
  by_cases hq : q = i.toNatClampNeg
  · subst hq
    simp [updV, upd]
  · simp [updV, upd, hq]
/-- new int[17][12] -/
theorem g_mna (S : CallFix p m c cc nL s args Ts own) (hK : va_K D vwCl (tyL cI cZ cB cO cR cJ) s) (hG : gW D Hb lv ad ce H) {index : Nat} (hclink : (Cond.classLink own index "[[I").before args s = true) (hover : va_AOA .int s) (harr : (Cond.arrayClass .int).before args s = true) (ko b : Nat) (hko : ad ko = H.size) (hb9 : ∀ i, i < 17 → ad (b + i) = H.size + 1 + i) (hd9 : ∀ i, i < 17 → ¬ b + i = ko) (hcells : cells + (1 + 17) ≤ R.cells) (hslots : slots + (17 + 17 * 12) ≤ R.slots) (hdg : decode cc pc = .ok (.multianewarray index 2, 4)) (hn : ∀ k, lv k → ¬ k = ko ∧ ¬ (b ≤ k ∧ k < b + 17))
    (kk : ∀ (H1 : Heap), gW D Hb (fun j => lv j ∨ (j = ko ∨ (b ≤ j ∧ j < b + 17))) ad (fun k => if k = ko then aRf cR 17 (kRf ad b 17) else if b ≤ k ∧ k < b + 17 then .inl (cI, 12, .inl (fun _ => 0)) else ce k) H1 → H1.size = H.size + 18 → W p l e R s m args below meth c H1 locs (cells + 1 + 17) (slots + 17 + 17 * 12) Q (F0 m (pc + 4) ls (.ref (ad ko) :: rest))) : W p l e R s m args below meth c H locs cells slots Q (F0 m pc ls (.int 12 :: .int 17 :: rest)) := by
  intro T hT Xs
  have hcy : s.vm.findClass (FieldType.array .int).toString = some cI := (hK.2 0 _ rfl).2
  have hcR : s.vm.findClass ("[" ++ (FieldType.array .int).toString) = some cR := (hK.2 4 _ rfl).2
  obtain ⟨vm₁, cA, comp, -, fA, fC, hO, -, X', step⟩ := Xs.multianewarray2F (ty := .int) S.1 S.2.2.2.1 hclink (va_AOA.use hover) harr (n := 17) (k := 12) (rest := rest) (g := F0 m pc ls (.int 12 :: .int 17 :: rest)) rfl (by rw [S.2.1]; exact hdg) rfl (by decide) (by decide) (by decide) (by decide) (by decide) rfl rfl hcells hslots
  have ec : some cI = some comp := hcy.symm.trans fC
  cases ec
  have ec2 : some cR = some cA := hcR.symm.trans fA
  cases ec2
  have z17 : Int32.toNatClampNeg 17 = 17 := by decide
  have z12 : Int32.toNatClampNeg 12 = 12 := by decide
  rw [z17, z12] at X' step
  generalize hF : Jvm.Free.Multi.fill (T.setVm vm₁) cR cI 17 12 (defaultValue .int) 17 = F at X' step
  have hTh : (T.setVm vm₁).heap = H := hT
  obtain ⟨f1, f2, -, -⟩ := Jvm.Free.Multi.fill_facts (T.setVm vm₁) cR cI 17 12 (defaultValue .int) 17
  rw [hF, hTh] at f1 f2
  have hold : ∀ x : Nat, x < H.size → F.heap[x]? = H[x]? := fun x hx => by
    have := Jvm.Free.Multi.fill_old (T.setVm vm₁) cR cI 17 12 (defaultValue .int) (a := x) (by rw [hTh]; exact hx) 17
    rw [hF, hTh] at this
    exact this
  have hzz : Jvm.Free.Multi.innerC cI 12 (defaultValue .int) = vp_cell cI (12, .inl (fun _ => 0)) := by
    show ({ cls := cI, slots := Array.replicate 12 (.int 0), vm := .none } : Cell) = _
    rw [arrV_new]
    rfl
  have hrow : ∀ j : Nat, j < 17 → F.heap[H.size + 1 + j]? = some (vp_cell cI (12, .inl (fun _ => 0))) := fun j hj => by
    have := Jvm.Free.Multi.fill_inner (T.setVm vm₁) cR cI 17 12 (defaultValue .int) 17 j hj
    rw [hF, hTh, hzz] at this
    exact this
  rw [vr_outer cR 17 H.size 17] at f2
  have hker : (fun j => va_rf (if j < 17 then some (H.size + 1 + j) else none)) = fun j => va_rf (kRf ad b 17 j) := by
    funext j
    unfold kRf
    by_cases c9 : j < 17
    · rw [if_pos c9, if_pos c9, hb9 j c9]
    · rw [if_neg c9, if_neg c9]
  rw [hker] at f2
  have hz1 : H.size ≤ F.heap.size := by rw [f1]; omega
  have hE := hG.ext (nw := fun j => j = ko ∨ (b ≤ j ∧ j < b + 17)) (ce' := fun k => if k = ko then aRf cR 17 (kRf ad b 17) else if b ≤ k ∧ k < b + 17 then .inl (cI, 12, .inl (fun _ => 0)) else ce k) hz1 hold (fun k hk => ?_) (fun k j hk hj hz => ?_) (fun k hk => ?_)
  · obtain ⟨t, a1, b1⟩ := kk F.heap hE (by rw [f1]) F rfl X'
    refine ⟨t, step t ?_, b1⟩
    rw [hT, ← hko]
    exact a1
  · rcases hk with hk | hk
    · subst hk
      refine ⟨by rw [hko]; exact Nat.le_refl _, ?_⟩
      rw [if_pos rfl]
      show F.heap[ad k]? = some (vp_cell cR (17, .inr (.inr (.inr (.inr (kRf ad b 17))))))
      rw [hko, vp_cell_q]
      exact f2
    · obtain ⟨i, rfl⟩ : ∃ i, k = b + i := ⟨k - b, by omega⟩
      refine ⟨by rw [hb9 i (by omega)]; omega, ?_⟩
      rw [if_neg (hd9 i (by omega)), if_pos hk]
      show F.heap[ad (b + i)]? = some (vp_cell cI (12, .inl (fun _ => 0)))
      rw [hb9 i (by omega)]
      exact hrow i (by omega)
  · rcases hk with hk | hk <;> rcases hj with hj | hj
    · rw [hk, hj]
    · obtain ⟨i, rfl⟩ : ∃ i, j = b + i := ⟨j - b, by omega⟩
      rw [hk, hko, hb9 i (by omega)] at hz
      omega
    · obtain ⟨i, rfl⟩ : ∃ i, k = b + i := ⟨k - b, by omega⟩
      rw [hj, hko, hb9 i (by omega)] at hz
      omega
    · obtain ⟨i, rfl⟩ : ∃ i, k = b + i := ⟨k - b, by omega⟩
      obtain ⟨i2, rfl⟩ : ∃ i, j = b + i := ⟨j - b, by omega⟩
      rw [hb9 i (by omega), hb9 i2 (by omega)] at hz
      omega
  · have q := hn k hk
    show (if k = ko then _ else if b ≤ k ∧ k < b + 17 then _ else ce k) = ce k
    rw [if_neg q.1, if_neg q.2]
end IRW

theorem lvN_n {lv : Nat → Prop} {L : List Nat} {k : Nat} (h : ¬ lv k) (h2 : ¬ k ∈ L) : ¬ lvN lv L k := fun z => z.elim h h2
set_option maxHeartbeats 2000000 in
set_option maxRecDepth 100000 in
theorem c_fillz {l : Launch} {D : va_G} {cI cZ cB cO cR cJ : ClassId} {Hb : Heap} {K : kTx} {lv : Nat → Prop} {ad : Nat → Nat} {ce : Nat → va_E} (k N n9 : Nat) (hk : lv k) (hN : N ≤ 5000) (f : Nat → Int32) (he : ce k = .inl (cI, N, .inl f)) (v : Int32) : Met l yJ7_fill_53178 wsJ7_fill_53178 { frames := 0, cells := 0, slots := 0, locals := 0 } (va_Pc [.ref (ad k), .int v] (kPz D (tyL cI cZ cB cO cR cJ) Hb K lv ad ce n9)) (gQz D Hb lv ad (va_up ce k (.inl (cI, N, .inl (fiU f v N)))) n9) 0 0 (gA Hb) := by
  refine Met.ofW (cc := cJ7_fill_53178) (maxL := 4) (ret := none) (by decide) rfl ?_
  intro p0 e0 s0 m0 args below meth c0 s₁ B hml hv
  obtain ⟨rfl, hsz, ⟨hG, hK, hE⟩, hOA⟩ := hv
  have hx := B.exec
  have hb := B.bytes
  have hr := B.returns
  have hts := atoms_spec (ws := wsJ7_fill_53178) B.pre
  have hown : s0.vm.findClass RJ7 = some m0.cls := findClass_of_methodNamed B.named
  have hlocks := B.notSynchronized
  have hin2 : meth.name = "<init>" ∨ True := Or.inr trivial
  have S : kX p0 m0 c0 cJ7_fill_53178 4 s0 _ wsJ7_fill_53178 RJ7 D (tyL cI cZ cB cO cR cJ) Hb K := ⟨⟨hx, hb, hml, hown, hts⟩, hK, hE⟩
  obtain ⟨-, hNm, -, -, -, -, -, -, -, hEm, -, -, -, -, -⟩ := hE
  have hL : gL Hb [] := gL.nil
  have hH := hG.2.2.2.2
  have hl := lv_entry ([.ref (ad k), .int v]) (n := 4) (Nat.le_of_ble_eq_true rfl)
  rw [lg_entry_eq]
  generalize (lg_sl ([.ref (ad k), .int v]) ++ List.replicate (4 - (lg_sl ([.ref (ad k), .int v])).length) Slot.unset).toArray = ls at hl ⊢
  have hl : lv_has ls 4 [(0, .ref (ad k)), (1, .int v)] := hl
  refine lv_iconst (v := 0) hx hb dJ7_fill_53178_0 (by decide) ?_
  refine lv_istore_n (lv' := [(2, .int 0), (0, .ref (ad k)), (1, .int v)]) hx hb dJ7_fill_53178_1 rfl hl (by decide) rfl (fun ls hl => ?_)
  refine lv_aload_n hx hb dJ7_fill_53178_2 rfl (lv_at hl 1 rfl) ?_
  refine g_alen (v := nI N) S.1 hK hG k hk 0 he rfl rfl dJ7_fill_53178_3 ?_
  refine lv_istore_n (lv' := [(3, .int (nI N)), (2, .int 0), (0, .ref (ad k)), (1, .int v)]) hx hb dJ7_fill_53178_4 rfl hl (by decide) rfl (fun ls hl => ?_)
  have LP : ∀ (n i : Nat) (x : Int32) (ex : x = nI i) (hi : i ≤ N) (hn : N + 1 ≤ i + n), ∀ (H : Heap) (locs : List Loc), gW D Hb lv ad (va_up ce k (.inl (cI, N, .inl (fiU f v i)))) H → H.size = n9 → gL Hb locs → ∀ (ls : Array Slot), lv_has ls 4 [(2, .int x), (3, .int (nI N)), (0, .ref (ad k)), (1, .int v)] → W p0 l e0 (headSpec wsJ7_fill_53178 { frames := 0, cells := 0, slots := 0, locals := 0 }).room s0 m0 ([.ref (ad k), .int v] : List Value).toArray below meth c0 H locs 0 0 (MQ below (gQz D Hb lv ad (va_up ce k (.inl (cI, N, .inl (fiU f v N)))) n9) ([.ref (ad k), .int v] : List Value).toArray s0 0 0 (gA Hb)) (F0 m0 5 ls []) := by
    intro n
    induction n with
    | zero => intro i x ex hi hn; exact absurd hn (by omega)
    | succ n ih =>
      intro i x ex hi hn H locs hG hsz hL ls hl
      have hii : Int32.toNatClampNeg x = i := by { rw [ex]; exact ix_nI (by omega) }
      refine lv_iload_n hx hb dJ7_fill_53178_5 rfl (lv_at hl 0 rfl) ?_
      refine lv_iload_n hx hb dJ7_fill_53178_6 rfl (lv_at hl 1 rfl) ?_
      refine lv_icmp_ge (tgt := 20) hx hb dJ7_fill_53178_7 (by decide) (fun c7 => ?_) (fun c7 => ?_)
      · have hE : i = N := by { have q := (nle (by omega) (by omega)).mp (ex ▸ c7 : nI N ≤ nI i); omega }
        exact z_vret S.1 hr hlocks hG hL hsz (fun _ h => h) (fun _ _ => by rw [hE]) dJ7_fill_53178_20 (Nat.le_of_ble_eq_true rfl) (Nat.le_of_ble_eq_true rfl)
      · have hlt : i < N := by { have q := (not_congr (nle (by omega) (by omega))).mp (ex ▸ c7 : ¬ nI N ≤ nI i); omega }
        refine lv_aload_n hx hb dJ7_fill_53178_10 rfl (lv_at hl 2 rfl) ?_
        refine lv_iload_n hx hb dJ7_fill_53178_11 rfl (lv_at hl 0 rfl) ?_
        refine lv_iload_n hx hb dJ7_fill_53178_12 rfl (lv_at hl 3 rfl) ?_
        refine g_iastz (n := N) (f := fiU f v i) (i := x) S.1 hK hG hL k hk 0 (va_up_self _ _ _) rfl (by rw [ex]; exact vp_in_i hlt hN) dJ7_fill_53178_13 (fun H locs hG hL hz9 => ?_)
        rw [hii, fiU_1, va_up_tw] at hG
        refine lv_iinc (v := x + 1) (lv' := [(2, .int (x + 1)), (3, .int (nI N)), (0, .ref (ad k)), (1, .int v)]) hx hb dJ7_fill_53178_14 hl (k := 0) rfl (by rfl) (by decide) rfl (fun ls hl => ?_)
        refine lv_goto (tgt := 5) hx hb dJ7_fill_53178_17 (by decide) ?_
        exact ih (i + 1) (x + 1) (by rw [ex]; exact nI_1 i) hlt (by omega) _ _ hG (by rw [hz9, hsz]) hL _ (lv_sub hl [0, 1, 2, 3] rfl)
  exact LP (N + 1) 0 0 rfl (Nat.zero_le _) (by omega) _ _ (by rw [fiU_0, va_up_id _ _ _ he]; exact hG) hsz hL _ (lv_sub hl [1, 0, 2, 3] rfl)

set_option maxHeartbeats 2000000 in
set_option maxRecDepth 100000 in
theorem c_X7_init {l : Launch} {D : va_G} {cI cZ cB cO cR cJ : ClassId} {Hb : Heap} {K : kTx} {lv : Nat → Prop} {ad : Nat → Nat} {ce : Nat → va_E} (s9 : Nat) (had : ∀ k, 100 < k → ad k = s9 + iK k) (ho : lv 101) (hn : ∀ j, j ∈ [112] → ¬ lv j) (he : ce 101 = .inr (8, [.null, .int 0, .int 0, .int 0, .int 0])) : Met l yX7_init wsX7_init { frames := 1, cells := 1, slots := 400, locals := 40 } (va_Pc [.ref (ad 101)] (kPz D (tyL cI cZ cB cO cR cJ) Hb K lv ad ce (s9 + 1))) (gQz D Hb (lvN lv [112]) ad (va_up (va_up ce 112 (.inl (cB, 400, .inl (fun _ => 0)))) 101 (.inr (8, [.ref (ad 112), .int 0, .int 0, .int 0, .int 0]))) (s9 + 2)) 1 400 (gA Hb) := by
  refine Met.ofW (cc := cX7_init) (maxL := 1) (ret := none) (by decide) rfl ?_
  intro p0 e0 s0 m0 args below meth c0 s₁ B hml hv
  obtain ⟨rfl, hsz, ⟨hG, hK, hE⟩, hOA⟩ := hv
  have hx := B.exec
  have hb := B.bytes
  have hr := B.returns
  have hts := atoms_spec (ws := wsX7_init) B.pre
  have hown : s0.vm.findClass RX7 = some m0.cls := findClass_of_methodNamed B.named
  have hlocks := B.notSynchronized
  have hin2 : meth.name = "<init>" ∨ True := Or.inr trivial
  have S : kX p0 m0 c0 cX7_init 1 s0 _ wsX7_init RX7 D (tyL cI cZ cB cO cR cJ) Hb K := ⟨⟨hx, hb, hml, hown, hts⟩, hK, hE⟩
  obtain ⟨-, hNm, -, -, -, -, -, -, -, hEm, -, -, -, -, -⟩ := hE
  have hL : gL Hb [] := gL.nil
  have hH := hG.2.2.2.2
  have hl := lv_entry ([.ref (ad 101)]) (n := 1) (Nat.le_of_ble_eq_true rfl)
  rw [lg_entry_eq]
  generalize (lg_sl ([.ref (ad 101)]) ++ List.replicate (1 - (lg_sl ([.ref (ad 101)])).length) Slot.unset).toArray = ls at hl ⊢
  have hl : lv_has ls 1 [(0, .ref (ad 101))] := hl
  have hin3 : meth.name = "<init>" := (name_of_methodNamed B.named B.method).1
  have hG := hG.less (lv' := lvN lv []) lvN_0
  refine lv_aload_n hx hb dX7_init_0 rfl (lv_at hl 0 rfl) ?_
  refine W.objInit hx hb hown (hts (.methodLink RX7 3 objectInit) (by decide +kernel)) (hts (.instanceMethod objectInit) (by decide +kernel)) (hts (.code objectInit ⟨#[0xb1]⟩ 1 none) (by decide +kernel)) rfl (by rw [hml]; exact hl.1) rfl dX7_init_1 (Nat.le_of_ble_eq_true rfl) (Nat.le_of_ble_eq_true rfl) ?_
  refine W.eq (g2 := F0 m0 4 ls []) rfl ?_
  generalize hHe : s0.heap = H at hG hsz hH ⊢
  refine lv_aload_n hx hb dX7_init_4 rfl (lv_at hl 0 rfl) ?_
  refine lv_sipush (v := 400) hx hb dX7_init_5 (by decide) ?_
  refine g_newa (atype := .byte) (cA := cB) (N' := 400) (a0 := (400, .inl (fun _ => 0))) S.1 hK hG (hts (.arrayClass .byte) (by decide +kernel)) 2 rfl 112 (lvN_n (hn 112 (by decide)) (by decide)) (by rw [had 112 (by decide), hsz]; rfl) (fun _ => rfl) (by decide) (by decide) (by decide) (Nat.le_of_ble_eq_true rfl) (Nat.le_of_ble_eq_true rfl) dX7_init_8 (fun H hG hz9 => ?_)
  have hG := hG.less (lv' := lvN lv [112]) lvN_push
  have hsz : Array.size H = s9 + 2 := by rw [hz9, hsz]
  refine g_putF (ref := RX7) (C := RX7) (T := TX7) (N := 5) (ci := 8) (ty := .array .byte) (v := .ref (ad 112)) S.1 hK hG hL (fun w h => List.mem_cons_of_mem _ (List.mem_append_right _ h)) tyX7 tyX7_ok nmX7 101 (Or.inl ho) he rfl 0 (by decide) (hts (.fieldLink RX7 11 "SwarmLine$Tape" "bytes" "[B") (by decide +kernel)) (fun _ h => h) rfl hin3 rfl (by decide +kernel) rfl rfl (Nat.le_of_ble_eq_true rfl) dX7_init_10 (fun H locs hG hL hz9 => ?_)
  have hsz : Array.size H = s9 + 2 := by rw [hz9, hsz]
  refine lv_aload_n hx hb dX7_init_13 rfl (lv_at hl 0 rfl) ?_
  refine lv_iconst (v := 0) hx hb dX7_init_14 (by decide) ?_
  refine g_putz (ref := RX7) (C := RX7) (T := TX7) (N := 5) (ci := 8) (ty := .int) (v := .int 0) S.1 hK hG hL (fun w h => List.mem_cons_of_mem _ (List.mem_append_right _ h)) tyX7 tyX7_ok nmX7 101 (Or.inl ho) rfl rfl 1 (by decide) (hts (.fieldLink RX7 15 "SwarmLine$Tape" "length" "I") (by decide +kernel)) (fun _ h => h) rfl (by decide +kernel) rfl rfl (Nat.le_of_ble_eq_true rfl) dX7_init_15 (fun H locs hG hL hz9 => ?_)
  have hsz : Array.size H = s9 + 2 := by rw [hz9, hsz]
  refine lv_aload_n hx hb dX7_init_18 rfl (lv_at hl 0 rfl) ?_
  refine lv_iconst (v := 0) hx hb dX7_init_19 (by decide) ?_
  refine g_putz (ref := RX7) (C := RX7) (T := TX7) (N := 5) (ci := 8) (ty := .int) (v := .int 0) S.1 hK hG hL (fun w h => List.mem_cons_of_mem _ (List.mem_append_right _ h)) tyX7 tyX7_ok nmX7 101 (Or.inl ho) rfl rfl 2 (by decide) (hts (.fieldLink RX7 19 "SwarmLine$Tape" "begin" "I") (by decide +kernel)) (fun _ h => h) rfl (by decide +kernel) rfl rfl (Nat.le_of_ble_eq_true rfl) dX7_init_20 (fun H locs hG hL hz9 => ?_)
  have hsz : Array.size H = s9 + 2 := by rw [hz9, hsz]
  refine lv_aload_n hx hb dX7_init_23 rfl (lv_at hl 0 rfl) ?_
  refine lv_iconst (v := 0) hx hb dX7_init_24 (by decide) ?_
  refine g_putz (ref := RX7) (C := RX7) (T := TX7) (N := 5) (ci := 8) (ty := .int) (v := .int 0) S.1 hK hG hL (fun w h => List.mem_cons_of_mem _ (List.mem_append_right _ h)) tyX7 tyX7_ok nmX7 101 (Or.inl ho) rfl rfl 3 (by decide) (hts (.fieldLink RX7 22 "SwarmLine$Tape" "behind" "I") (by decide +kernel)) (fun _ h => h) rfl (by decide +kernel) rfl rfl (Nat.le_of_ble_eq_true rfl) dX7_init_25 (fun H locs hG hL hz9 => ?_)
  have hsz : Array.size H = s9 + 2 := by rw [hz9, hsz]
  refine lv_aload_n hx hb dX7_init_28 rfl (lv_at hl 0 rfl) ?_
  refine lv_iconst (v := 0) hx hb dX7_init_29 (by decide) ?_
  refine g_putz (ref := RX7) (C := RX7) (T := TX7) (N := 5) (ci := 8) (ty := .int) (v := .int 0) S.1 hK hG hL (fun w h => List.mem_cons_of_mem _ (List.mem_append_right _ h)) tyX7 tyX7_ok nmX7 101 (Or.inl ho) rfl rfl 4 (by decide) (hts (.fieldLink RX7 25 "SwarmLine$Tape" "kind" "I") (by decide +kernel)) (fun _ h => h) rfl (by decide +kernel) rfl rfl (Nat.le_of_ble_eq_true rfl) dX7_init_30 (fun H locs hG hL hz9 => ?_)
  have hsz : Array.size H = s9 + 2 := by rw [hz9, hsz]
  refine z_vret S.1 hr hlocks hG hL hsz (fun j h => h) (fun j _ => ?_) dX7_init_33 (Nat.le_of_ble_eq_true rfl) (Nat.le_of_ble_eq_true rfl)
  by_cases h101 : j = 101
  · subst h101; rfl
  by_cases h112 : j = 112
  · subst h112; rfl
  simp only [va_up, h101, h112, if_false]

set_option maxHeartbeats 2000000 in
set_option maxRecDepth 100000 in
theorem c_X2_init {l : Launch} {D : va_G} {cI cZ cB cO cR cJ : ClassId} {Hb : Heap} {K : kTx} {lv : Nat → Prop} {ad : Nat → Nat} {ce : Nat → va_E} (s9 : Nat) (had : ∀ k, 100 < k → ad k = s9 + iK k) (ho : lv 102) (hn : ∀ j, j ∈ [] → ¬ lv j) (he : ce 102 = .inr (3, [.int 0, .int 0, .int 0, .int 0, .int 0, .int 0])) : Met l yX2_init wsX2_init { frames := 1, cells := 0, slots := 0, locals := 40 } (va_Pc [.ref (ad 102)] (kPz D (tyL cI cZ cB cO cR cJ) Hb K lv ad ce (s9 + 3))) (gQz D Hb (lvN lv []) ad ce (s9 + 3)) 0 0 (gA Hb) := by
  refine Met.ofW (cc := cX2_init) (maxL := 1) (ret := none) (by decide) rfl ?_
  intro p0 e0 s0 m0 args below meth c0 s₁ B hml hv
  obtain ⟨rfl, hsz, ⟨hG, hK, hE⟩, hOA⟩ := hv
  have hx := B.exec
  have hb := B.bytes
  have hr := B.returns
  have hts := atoms_spec (ws := wsX2_init) B.pre
  have hown : s0.vm.findClass RX2 = some m0.cls := findClass_of_methodNamed B.named
  have hlocks := B.notSynchronized
  have hin2 : meth.name = "<init>" ∨ True := Or.inr trivial
  have S : kX p0 m0 c0 cX2_init 1 s0 _ wsX2_init RX2 D (tyL cI cZ cB cO cR cJ) Hb K := ⟨⟨hx, hb, hml, hown, hts⟩, hK, hE⟩
  obtain ⟨-, hNm, -, -, -, -, -, -, -, hEm, -, -, -, -, -⟩ := hE
  have hL : gL Hb [] := gL.nil
  have hH := hG.2.2.2.2
  have hl := lv_entry ([.ref (ad 102)]) (n := 1) (Nat.le_of_ble_eq_true rfl)
  rw [lg_entry_eq]
  generalize (lg_sl ([.ref (ad 102)]) ++ List.replicate (1 - (lg_sl ([.ref (ad 102)])).length) Slot.unset).toArray = ls at hl ⊢
  have hl : lv_has ls 1 [(0, .ref (ad 102))] := hl
  have hin3 : meth.name = "<init>" := (name_of_methodNamed B.named B.method).1
  have hG := hG.less (lv' := lvN lv []) lvN_0
  refine lv_aload_n hx hb dX2_init_0 rfl (lv_at hl 0 rfl) ?_
  refine W.objInit hx hb hown (hts (.methodLink RX2 3 objectInit) (by decide +kernel)) (hts (.instanceMethod objectInit) (by decide +kernel)) (hts (.code objectInit ⟨#[0xb1]⟩ 1 none) (by decide +kernel)) rfl (by rw [hml]; exact hl.1) rfl dX2_init_1 (Nat.le_of_ble_eq_true rfl) (Nat.le_of_ble_eq_true rfl) ?_
  refine W.eq (g2 := F0 m0 4 ls []) rfl ?_
  generalize hHe : s0.heap = H at hG hsz hH ⊢
  exact z_vret S.1 hr hlocks hG hL hsz (fun j h => h) (fun j _ => rfl) dX2_init_4 (Nat.le_of_ble_eq_true rfl) (Nat.le_of_ble_eq_true rfl)

set_option maxHeartbeats 2000000 in
set_option maxRecDepth 100000 in
theorem c_X5_init {l : Launch} {D : va_G} {cI cZ cB cO cR cJ : ClassId} {Hb : Heap} {K : kTx} {lv : Nat → Prop} {ad : Nat → Nat} {ce : Nat → va_E} (s9 : Nat) (had : ∀ k, 100 < k → ad k = s9 + iK k) (ho : lv 103) (hn : ∀ j, j ∈ [116, 115, 114, 113] → ¬ lv j) (he : ce 103 = .inr (6, [.null, .null, .null, .null])) : Met l yX5_init wsX5_init { frames := 1, cells := 4, slots := 124, locals := 40 } (va_Pc [.ref (ad 103)] (kPz D (tyL cI cZ cB cO cR cJ) Hb K lv ad ce (s9 + 4))) (gQz D Hb (lvN lv [116, 115, 114, 113]) ad (va_up (va_up (va_up (va_up (va_up ce 113 (.inl (cI, 31, .inl (fiU (fun _ => 0) 15 31)))) 114 (.inl (cI, 31, .inl (fiU (fun _ => 0) 50 31)))) 115 (.inl (cI, 31, .inl (fiU (fun _ => 0) (-20) 31)))) 116 (.inl (cI, 31, .inl (fiU (fun _ => 0) 40 31)))) 103 (.inr (6, [.ref (ad 113), .ref (ad 114), .ref (ad 115), .ref (ad 116)]))) (s9 + 8)) 4 124 (gA Hb) := by
  refine Met.ofW (cc := cX5_init) (maxL := 1) (ret := none) (by decide) rfl ?_
  intro p0 e0 s0 m0 args below meth c0 s₁ B hml hv
  obtain ⟨rfl, hsz, ⟨hG, hK, hE⟩, hOA⟩ := hv
  have hx := B.exec
  have hb := B.bytes
  have hr := B.returns
  have hts := atoms_spec (ws := wsX5_init) B.pre
  have hown : s0.vm.findClass RX5 = some m0.cls := findClass_of_methodNamed B.named
  have hlocks := B.notSynchronized
  have hin2 : meth.name = "<init>" ∨ True := Or.inr trivial
  have S : kX p0 m0 c0 cX5_init 1 s0 _ wsX5_init RX5 D (tyL cI cZ cB cO cR cJ) Hb K := ⟨⟨hx, hb, hml, hown, hts⟩, hK, hE⟩
  obtain ⟨-, hNm, -, -, -, -, -, -, -, hEm, -, -, -, -, -⟩ := hE
  have hL : gL Hb [] := gL.nil
  have hH := hG.2.2.2.2
  have hl := lv_entry ([.ref (ad 103)]) (n := 1) (Nat.le_of_ble_eq_true rfl)
  rw [lg_entry_eq]
  generalize (lg_sl ([.ref (ad 103)]) ++ List.replicate (1 - (lg_sl ([.ref (ad 103)])).length) Slot.unset).toArray = ls at hl ⊢
  have hl : lv_has ls 1 [(0, .ref (ad 103))] := hl
  have hin3 : meth.name = "<init>" := (name_of_methodNamed B.named B.method).1
  have hG := hG.less (lv' := lvN lv []) lvN_0
  refine lv_aload_n hx hb dX5_init_0 rfl (lv_at hl 0 rfl) ?_
  refine W.objInit hx hb hown (hts (.methodLink RX5 3 objectInit) (by decide +kernel)) (hts (.instanceMethod objectInit) (by decide +kernel)) (hts (.code objectInit ⟨#[0xb1]⟩ 1 none) (by decide +kernel)) rfl (by rw [hml]; exact hl.1) rfl dX5_init_1 (Nat.le_of_ble_eq_true rfl) (Nat.le_of_ble_eq_true rfl) ?_
  refine W.eq (g2 := F0 m0 4 ls []) rfl ?_
  generalize hHe : s0.heap = H at hG hsz hH ⊢
  refine lv_aload_n hx hb dX5_init_4 rfl (lv_at hl 0 rfl) ?_
  refine lv_bipush (v := 31) hx hb dX5_init_5 (by decide) ?_
  refine g_newa (atype := .int) (cA := cI) (N' := 31) (a0 := (31, .inl (fun _ => 0))) S.1 hK hG (hts (.arrayClass .int) (by decide +kernel)) 0 rfl 113 (lvN_n (hn 113 (by decide)) (by decide)) (by rw [had 113 (by decide), hsz]; rfl) (fun _ => rfl) (by decide) (by decide) (by decide) (Nat.le_of_ble_eq_true rfl) (Nat.le_of_ble_eq_true rfl) dX5_init_7 (fun H hG hz9 => ?_)
  have hG := hG.less (lv' := lvN lv [113]) lvN_push
  have hsz : Array.size H = s9 + 5 := by rw [hz9, hsz]
  refine g_putF (ref := RX5) (C := RX5) (T := TX5) (N := 4) (ci := 6) (ty := .array .int) (v := .ref (ad 113)) S.1 hK hG hL (fun w h => List.mem_cons_of_mem _ (List.mem_append_right _ h)) tyX5 tyX5_ok nmX5 103 (Or.inl ho) he rfl 0 (by decide) (hts (.fieldLink RX5 11 "SwarmLine$Sky" "warmth" "[I") (by decide +kernel)) (fun _ h => h) rfl hin3 rfl (by decide +kernel) rfl rfl (Nat.le_of_ble_eq_true rfl) dX5_init_9 (fun H locs hG hL hz9 => ?_)
  have hsz : Array.size H = s9 + 5 := by rw [hz9, hsz]
  refine lv_aload_n hx hb dX5_init_12 rfl (lv_at hl 0 rfl) ?_
  refine lv_bipush (v := 31) hx hb dX5_init_13 (by decide) ?_
  refine g_newa (atype := .int) (cA := cI) (N' := 31) (a0 := (31, .inl (fun _ => 0))) S.1 hK hG (hts (.arrayClass .int) (by decide +kernel)) 0 rfl 114 (lvN_n (hn 114 (by decide)) (by decide)) (by rw [had 114 (by decide), hsz]; rfl) (fun _ => rfl) (by decide) (by decide) (by decide) (Nat.le_of_ble_eq_true rfl) (Nat.le_of_ble_eq_true rfl) dX5_init_15 (fun H hG hz9 => ?_)
  have hG := hG.less (lv' := lvN lv [114, 113]) lvN_push
  have hsz : Array.size H = s9 + 6 := by rw [hz9, hsz]
  refine g_putF (ref := RX5) (C := RX5) (T := TX5) (N := 4) (ci := 6) (ty := .array .int) (v := .ref (ad 114)) S.1 hK hG hL (fun w h => List.mem_cons_of_mem _ (List.mem_append_right _ h)) tyX5 tyX5_ok nmX5 103 (Or.inl ho) rfl rfl 1 (by decide) (hts (.fieldLink RX5 15 "SwarmLine$Sky" "bloom" "[I") (by decide +kernel)) (fun _ h => h) rfl hin3 rfl (by decide +kernel) rfl rfl (Nat.le_of_ble_eq_true rfl) dX5_init_17 (fun H locs hG hL hz9 => ?_)
  have hsz : Array.size H = s9 + 6 := by rw [hz9, hsz]
  refine lv_aload_n hx hb dX5_init_20 rfl (lv_at hl 0 rfl) ?_
  refine lv_bipush (v := 31) hx hb dX5_init_21 (by decide) ?_
  refine g_newa (atype := .int) (cA := cI) (N' := 31) (a0 := (31, .inl (fun _ => 0))) S.1 hK hG (hts (.arrayClass .int) (by decide +kernel)) 0 rfl 115 (lvN_n (hn 115 (by decide)) (by decide)) (by rw [had 115 (by decide), hsz]; rfl) (fun _ => rfl) (by decide) (by decide) (by decide) (Nat.le_of_ble_eq_true rfl) (Nat.le_of_ble_eq_true rfl) dX5_init_23 (fun H hG hz9 => ?_)
  have hG := hG.less (lv' := lvN lv [115, 114, 113]) lvN_push
  have hsz : Array.size H = s9 + 7 := by rw [hz9, hsz]
  refine g_putF (ref := RX5) (C := RX5) (T := TX5) (N := 4) (ci := 6) (ty := .array .int) (v := .ref (ad 115)) S.1 hK hG hL (fun w h => List.mem_cons_of_mem _ (List.mem_append_right _ h)) tyX5 tyX5_ok nmX5 103 (Or.inl ho) rfl rfl 2 (by decide) (hts (.fieldLink RX5 18 "SwarmLine$Sky" "least" "[I") (by decide +kernel)) (fun _ h => h) rfl hin3 rfl (by decide +kernel) rfl rfl (Nat.le_of_ble_eq_true rfl) dX5_init_25 (fun H locs hG hL hz9 => ?_)
  have hsz : Array.size H = s9 + 7 := by rw [hz9, hsz]
  refine lv_aload_n hx hb dX5_init_28 rfl (lv_at hl 0 rfl) ?_
  refine lv_bipush (v := 31) hx hb dX5_init_29 (by decide) ?_
  refine g_newa (atype := .int) (cA := cI) (N' := 31) (a0 := (31, .inl (fun _ => 0))) S.1 hK hG (hts (.arrayClass .int) (by decide +kernel)) 0 rfl 116 (lvN_n (hn 116 (by decide)) (by decide)) (by rw [had 116 (by decide), hsz]; rfl) (fun _ => rfl) (by decide) (by decide) (by decide) (Nat.le_of_ble_eq_true rfl) (Nat.le_of_ble_eq_true rfl) dX5_init_31 (fun H hG hz9 => ?_)
  have hG := hG.less (lv' := lvN lv [116, 115, 114, 113]) lvN_push
  have hsz : Array.size H = s9 + 8 := by rw [hz9, hsz]
  refine g_putF (ref := RX5) (C := RX5) (T := TX5) (N := 4) (ci := 6) (ty := .array .int) (v := .ref (ad 116)) S.1 hK hG hL (fun w h => List.mem_cons_of_mem _ (List.mem_append_right _ h)) tyX5 tyX5_ok nmX5 103 (Or.inl ho) rfl rfl 3 (by decide) (hts (.fieldLink RX5 21 "SwarmLine$Sky" "greatest" "[I") (by decide +kernel)) (fun _ h => h) rfl hin3 rfl (by decide +kernel) rfl rfl (Nat.le_of_ble_eq_true rfl) dX5_init_33 (fun H locs hG hL hz9 => ?_)
  have hsz : Array.size H = s9 + 8 := by rw [hz9, hsz]
  refine lv_aload_n hx hb dX5_init_36 rfl (lv_at hl 0 rfl) ?_
  refine k_ga (C := RX5) (T := TX5) (N := 4) (ci := 6) (v := .ref (ad 113)) S hG (fun w h => List.mem_cons_of_mem _ (List.mem_append_right _ h)) 103 (Or.inl ho) rfl rfl 0 (by decide) rfl (hts (.fieldLink RX5 11 "SwarmLine$Sky" "warmth" "[I") (by decide +kernel)) rfl dX5_init_37 ?_
  refine lv_bipush (v := 15) hx hb dX5_init_40 (by decide) ?_
  refine z_callS (n := 2) (As := [.ref (ad 113), .int 15]) (rest := []) S hOA hG hL hsz (c_fillz 113 31 _ (Or.inr (by decide)) (by decide) (fun _ => 0) rfl 15) gX5_init_J7_fill_53178 rfl ⟨rfl, rfl⟩ (by decide +kernel) ⟨(Nat.le_of_ble_eq_true rfl), (Nat.le_of_ble_eq_true rfl)⟩ rfl hl.1 rfl (Nat.le_of_ble_eq_true rfl) dX5_init_42 ⟨(Nat.le_of_ble_eq_true rfl), (Nat.le_of_ble_eq_true rfl)⟩ (fun H locs hG hL hsz => ?_)
  refine lv_aload_n hx hb dX5_init_45 rfl (lv_at hl 0 rfl) ?_
  refine k_ga (C := RX5) (T := TX5) (N := 4) (ci := 6) (v := .ref (ad 114)) S hG (fun w h => List.mem_cons_of_mem _ (List.mem_append_right _ h)) 103 (Or.inl ho) rfl rfl 1 (by decide) rfl (hts (.fieldLink RX5 15 "SwarmLine$Sky" "bloom" "[I") (by decide +kernel)) rfl dX5_init_46 ?_
  refine lv_bipush (v := 50) hx hb dX5_init_49 (by decide) ?_
  refine z_callS (n := 2) (As := [.ref (ad 114), .int 50]) (rest := []) S hOA hG hL hsz (c_fillz 114 31 _ (Or.inr (by decide)) (by decide) (fun _ => 0) rfl 50) gX5_init_J7_fill_53178 rfl ⟨rfl, rfl⟩ (by decide +kernel) ⟨(Nat.le_of_ble_eq_true rfl), (Nat.le_of_ble_eq_true rfl)⟩ rfl hl.1 rfl (Nat.le_of_ble_eq_true rfl) dX5_init_51 ⟨(Nat.le_of_ble_eq_true rfl), (Nat.le_of_ble_eq_true rfl)⟩ (fun H locs hG hL hsz => ?_)
  refine lv_aload_n hx hb dX5_init_54 rfl (lv_at hl 0 rfl) ?_
  refine k_ga (C := RX5) (T := TX5) (N := 4) (ci := 6) (v := .ref (ad 115)) S hG (fun w h => List.mem_cons_of_mem _ (List.mem_append_right _ h)) 103 (Or.inl ho) rfl rfl 2 (by decide) rfl (hts (.fieldLink RX5 18 "SwarmLine$Sky" "least" "[I") (by decide +kernel)) rfl dX5_init_55 ?_
  refine lv_bipush (v := (-20)) hx hb dX5_init_58 (by decide) ?_
  refine z_callS (n := 2) (As := [.ref (ad 115), .int (-20)]) (rest := []) S hOA hG hL hsz (c_fillz 115 31 _ (Or.inr (by decide)) (by decide) (fun _ => 0) rfl (-20)) gX5_init_J7_fill_53178 rfl ⟨rfl, rfl⟩ (by decide +kernel) ⟨(Nat.le_of_ble_eq_true rfl), (Nat.le_of_ble_eq_true rfl)⟩ rfl hl.1 rfl (Nat.le_of_ble_eq_true rfl) dX5_init_60 ⟨(Nat.le_of_ble_eq_true rfl), (Nat.le_of_ble_eq_true rfl)⟩ (fun H locs hG hL hsz => ?_)
  refine lv_aload_n hx hb dX5_init_63 rfl (lv_at hl 0 rfl) ?_
  refine k_ga (C := RX5) (T := TX5) (N := 4) (ci := 6) (v := .ref (ad 116)) S hG (fun w h => List.mem_cons_of_mem _ (List.mem_append_right _ h)) 103 (Or.inl ho) rfl rfl 3 (by decide) rfl (hts (.fieldLink RX5 21 "SwarmLine$Sky" "greatest" "[I") (by decide +kernel)) rfl dX5_init_64 ?_
  refine lv_bipush (v := 40) hx hb dX5_init_67 (by decide) ?_
  refine z_callS (n := 2) (As := [.ref (ad 116), .int 40]) (rest := []) S hOA hG hL hsz (c_fillz 116 31 _ (Or.inr (by decide)) (by decide) (fun _ => 0) rfl 40) gX5_init_J7_fill_53178 rfl ⟨rfl, rfl⟩ (by decide +kernel) ⟨(Nat.le_of_ble_eq_true rfl), (Nat.le_of_ble_eq_true rfl)⟩ rfl hl.1 rfl (Nat.le_of_ble_eq_true rfl) dX5_init_69 ⟨(Nat.le_of_ble_eq_true rfl), (Nat.le_of_ble_eq_true rfl)⟩ (fun H locs hG hL hsz => ?_)
  refine z_vret S.1 hr hlocks hG hL hsz (fun j h => h) (fun j _ => ?_) dX5_init_72 (Nat.le_of_ble_eq_true rfl) (Nat.le_of_ble_eq_true rfl)
  by_cases h103 : j = 103
  · subst h103; rfl
  by_cases h113 : j = 113
  · subst h113; rfl
  by_cases h114 : j = 114
  · subst h114; rfl
  by_cases h115 : j = 115
  · subst h115; rfl
  by_cases h116 : j = 116
  · subst h116; rfl
  simp only [va_up, h103, h113, h114, h115, h116, if_false]

set_option maxHeartbeats 2000000 in
set_option maxRecDepth 100000 in
theorem c_X0_init {l : Launch} {D : va_G} {cI cZ cB cO cR cJ : ClassId} {Hb : Heap} {K : kTx} {lv : Nat → Prop} {ad : Nat → Nat} {ce : Nat → va_E} (s9 : Nat) (had : ∀ k, 100 < k → ad k = s9 + iK k) (ho : lv 104) (hn : ∀ j, j ∈ [118, 117] → ¬ lv j) (he : ce 104 = .inr (1, [.null, .null, .int 0])) : Met l yX0_init wsX0_init { frames := 1, cells := 2, slots := 24, locals := 40 } (va_Pc [.ref (ad 104)] (kPz D (tyL cI cZ cB cO cR cJ) Hb K lv ad ce (s9 + 9))) (gQz D Hb (lvN lv [118, 117]) ad (va_up (va_up (va_up ce 117 (.inl (cI, 12, .inl (fun _ => 0)))) 118 (.inl (cI, 12, .inl (fun _ => 0)))) 104 (.inr (1, [.ref (ad 117), .ref (ad 118), .int 0]))) (s9 + 11)) 2 24 (gA Hb) := by
  refine Met.ofW (cc := cX0_init) (maxL := 1) (ret := none) (by decide) rfl ?_
  intro p0 e0 s0 m0 args below meth c0 s₁ B hml hv
  obtain ⟨rfl, hsz, ⟨hG, hK, hE⟩, hOA⟩ := hv
  have hx := B.exec
  have hb := B.bytes
  have hr := B.returns
  have hts := atoms_spec (ws := wsX0_init) B.pre
  have hown : s0.vm.findClass RX0 = some m0.cls := findClass_of_methodNamed B.named
  have hlocks := B.notSynchronized
  have hin2 : meth.name = "<init>" ∨ True := Or.inr trivial
  have S : kX p0 m0 c0 cX0_init 1 s0 _ wsX0_init RX0 D (tyL cI cZ cB cO cR cJ) Hb K := ⟨⟨hx, hb, hml, hown, hts⟩, hK, hE⟩
  obtain ⟨-, hNm, -, -, -, -, -, -, -, hEm, -, -, -, -, -⟩ := hE
  have hL : gL Hb [] := gL.nil
  have hH := hG.2.2.2.2
  have hl := lv_entry ([.ref (ad 104)]) (n := 1) (Nat.le_of_ble_eq_true rfl)
  rw [lg_entry_eq]
  generalize (lg_sl ([.ref (ad 104)]) ++ List.replicate (1 - (lg_sl ([.ref (ad 104)])).length) Slot.unset).toArray = ls at hl ⊢
  have hl : lv_has ls 1 [(0, .ref (ad 104))] := hl
  have hin3 : meth.name = "<init>" := (name_of_methodNamed B.named B.method).1
  have hG := hG.less (lv' := lvN lv []) lvN_0
  refine lv_aload_n hx hb dX0_init_0 rfl (lv_at hl 0 rfl) ?_
  refine W.objInit hx hb hown (hts (.methodLink RX0 3 objectInit) (by decide +kernel)) (hts (.instanceMethod objectInit) (by decide +kernel)) (hts (.code objectInit ⟨#[0xb1]⟩ 1 none) (by decide +kernel)) rfl (by rw [hml]; exact hl.1) rfl dX0_init_1 (Nat.le_of_ble_eq_true rfl) (Nat.le_of_ble_eq_true rfl) ?_
  refine W.eq (g2 := F0 m0 4 ls []) rfl ?_
  generalize hHe : s0.heap = H at hG hsz hH ⊢
  refine lv_aload_n hx hb dX0_init_4 rfl (lv_at hl 0 rfl) ?_
  refine lv_bipush (v := 12) hx hb dX0_init_5 (by decide) ?_
  refine g_newa (atype := .int) (cA := cI) (N' := 12) (a0 := (12, .inl (fun _ => 0))) S.1 hK hG (hts (.arrayClass .int) (by decide +kernel)) 0 rfl 117 (lvN_n (hn 117 (by decide)) (by decide)) (by rw [had 117 (by decide), hsz]; rfl) (fun _ => rfl) (by decide) (by decide) (by decide) (Nat.le_of_ble_eq_true rfl) (Nat.le_of_ble_eq_true rfl) dX0_init_7 (fun H hG hz9 => ?_)
  have hG := hG.less (lv' := lvN lv [117]) lvN_push
  have hsz : Array.size H = s9 + 10 := by rw [hz9, hsz]
  refine g_putF (ref := RX0) (C := RX0) (T := TX0) (N := 3) (ci := 1) (ty := .array .int) (v := .ref (ad 117)) S.1 hK hG hL (fun w h => List.mem_cons_of_mem _ (List.mem_append_right _ h)) tyX0 tyX0_ok nmX0 104 (Or.inl ho) he rfl 0 (by decide) (hts (.fieldLink RX0 9 "SwarmLine$Asked" "numbers" "[I") (by decide +kernel)) (fun _ h => h) rfl hin3 rfl (by decide +kernel) rfl rfl (Nat.le_of_ble_eq_true rfl) dX0_init_9 (fun H locs hG hL hz9 => ?_)
  have hsz : Array.size H = s9 + 10 := by rw [hz9, hsz]
  refine lv_aload_n hx hb dX0_init_12 rfl (lv_at hl 0 rfl) ?_
  refine lv_bipush (v := 12) hx hb dX0_init_13 (by decide) ?_
  refine g_newa (atype := .int) (cA := cI) (N' := 12) (a0 := (12, .inl (fun _ => 0))) S.1 hK hG (hts (.arrayClass .int) (by decide +kernel)) 0 rfl 118 (lvN_n (hn 118 (by decide)) (by decide)) (by rw [had 118 (by decide), hsz]; rfl) (fun _ => rfl) (by decide) (by decide) (by decide) (Nat.le_of_ble_eq_true rfl) (Nat.le_of_ble_eq_true rfl) dX0_init_15 (fun H hG hz9 => ?_)
  have hG := hG.less (lv' := lvN lv [118, 117]) lvN_push
  have hsz : Array.size H = s9 + 11 := by rw [hz9, hsz]
  refine g_putF (ref := RX0) (C := RX0) (T := TX0) (N := 3) (ci := 1) (ty := .array .int) (v := .ref (ad 118)) S.1 hK hG hL (fun w h => List.mem_cons_of_mem _ (List.mem_append_right _ h)) tyX0 tyX0_ok nmX0 104 (Or.inl ho) rfl rfl 1 (by decide) (hts (.fieldLink RX0 15 "SwarmLine$Asked" "against" "[I") (by decide +kernel)) (fun _ h => h) rfl hin3 rfl (by decide +kernel) rfl rfl (Nat.le_of_ble_eq_true rfl) dX0_init_17 (fun H locs hG hL hz9 => ?_)
  have hsz : Array.size H = s9 + 11 := by rw [hz9, hsz]
  refine lv_aload_n hx hb dX0_init_20 rfl (lv_at hl 0 rfl) ?_
  refine lv_iconst (v := 0) hx hb dX0_init_21 (by decide) ?_
  refine g_putz (ref := RX0) (C := RX0) (T := TX0) (N := 3) (ci := 1) (ty := .int) (v := .int 0) S.1 hK hG hL (fun w h => List.mem_cons_of_mem _ (List.mem_append_right _ h)) tyX0 tyX0_ok nmX0 104 (Or.inl ho) rfl rfl 2 (by decide) (hts (.fieldLink RX0 18 "SwarmLine$Asked" "many" "I") (by decide +kernel)) (fun _ h => h) rfl (by decide +kernel) rfl rfl (Nat.le_of_ble_eq_true rfl) dX0_init_22 (fun H locs hG hL hz9 => ?_)
  have hsz : Array.size H = s9 + 11 := by rw [hz9, hsz]
  refine z_vret S.1 hr hlocks hG hL hsz (fun j h => h) (fun j _ => ?_) dX0_init_25 (Nat.le_of_ble_eq_true rfl) (Nat.le_of_ble_eq_true rfl)
  by_cases h104 : j = 104
  · subst h104; rfl
  by_cases h117 : j = 117
  · subst h117; rfl
  by_cases h118 : j = 118
  · subst h118; rfl
  simp only [va_up, h104, h117, h118, if_false]
