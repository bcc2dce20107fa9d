/-! cells that are made while the class runs: a new cell gets a key that didn't live; the addresses of what lives stay -/
theorem gW.re {D : va_G} {Hb : Heap} {lv lv' : Nat → Prop} {ad ad' : Nat → Nat} {ce ce' : Nat → va_E} {H : Heap} (hG : gW D Hb lv ad ce H) (h1 : ∀ k, lv' k → lv k) (h2 : ∀ k, lv' k → ad' k = ad k) (h3 : ∀ k, lv' k → ce' k = ce k) : gW D Hb lv' ad' ce' H := by
  obtain ⟨g1, g2, g3, g4, g5⟩ := hG
  refine ⟨fun k hk => ?_, fun k j hk hj e => ?_, fun k hk => ?_, g4, g5⟩
  · rw [h2 k hk, h3 k hk]; exact g1 k (h1 k hk)
  · rw [h2 k hk, h2 j hj] at e; exact g2 k j (h1 k hk) (h1 j hj) e
  · rw [h2 k hk]; exact g3 k (h1 k hk)
theorem gW.perm {D : va_G} {Hb : Heap} {lv lv' : Nat → Prop} {ad : Nat → Nat} {ce ce' : Nat → va_E} {H : Heap} (hG : gW D Hb lv ad ce H) (σ : Nat → Nat) (h1 : ∀ k, lv' k → lv (σ k)) (h2 : ∀ k j, lv' k → lv' j → σ k = σ j → k = j) (h3 : ∀ k, lv' k → ce' k = ce (σ k)) : gW D Hb lv' (fun k => ad (σ k)) ce' H := by
  obtain ⟨g1, g2, g3, g4, g5⟩ := hG
  refine ⟨fun k hk => ?_, fun k j hk hj e => h2 k j hk hj (g2 _ _ (h1 k hk) (h1 j hj) e), fun k hk => g3 _ (h1 k hk), g4, g5⟩
  rw [h3 k hk]; exact g1 _ (h1 k hk)
theorem gW.setL {D : va_G} {Hb : Heap} {lv : Nat → Prop} {ad : Nat → Nat} {ce : Nat → va_E} {H H1 : Heap} (hG : gW D Hb lv ad ce H) {k : Nat} (hk : lv k) {e : va_E} (he : va_at D vwCl (ad k, e) H1) (hz : H.size ≤ H1.size) (oq : ∀ q : Nat, q < H.size → q ≠ ad k → H1[q]? = H[q]?) : gW D Hb lv ad (va_up ce k e) H1 := by
  obtain ⟨h1, h2, h3, h4, h5⟩ := hG
  refine ⟨fun j hj => ?_, h2, h3, by omega, fun q hq => ?_⟩
  · by_cases e1 : j = k
    · subst e1; rw [va_up_self]; exact he
    · rw [va_up_ne _ _ e1]; exact (h1 j hj).kept (oq _ (h1 j hj).lt (fun z => e1 (h2 j k hj hk z)))
  · rw [oq q (by omega) (fun z => by have := h3 k hk; omega)]; exact h5 q hq
/-- how a method ends that makes one cell, at key k' -/
def nQ (D : va_G) (Hb : Heap) (lv : Nat → Prop) (ad : Nat → Nat) (k' : Nat) (rvf : (Nat → Nat) → Option Value) (cef : (Nat → Nat) → Nat → va_E) : Array Value → State → Outcome → State → Prop := fun _ _ oc t => ∃ ad' : Nat → Nat, (∀ j, lv j → ad' j = ad j) ∧ oc = .returned (rvf ad') ∧ gW D Hb (fun j => lv j ∨ j = k') ad' (cef ad') t.heap
section ZRW
variable {p : Program} {l : Launch} {e : Env} {R : Room} {s : State} {m : MethodId} {args : Array Value} {below : List Frame} {meth : Method} {c : Code} {H : Heap} {locs : List Loc} {cells slots : Nat} {Q : State → Prop}
variable {cI cZ cB cO cR cJ : ClassId} {cc : ByteArray} {pc nL : Nat} {ls : Array Slot} {rest st0 st1 : List Value} {D : va_G} {tys : List (ClassId × FieldType)} {Hb : Heap} {K : kTx} {lv : Nat → Prop} {ad : Nat → Nat} {ce ce' : Nat → va_E} {Ts : List Cond} {own : String}
theorem z_new (S : CallFix p m c cc nL s args Ts own) (hK : va_K D vwCl tys s) (hG : gW D Hb lv ad ce H) {C : String} {T : u_T} {N ci index : Nat} (hin : ∀ w ∈ u_ws C T N, w ∈ Ts) (ty : Nat → FieldType) (hty : ∀ k, k < N → parseFieldDescriptor (T k).2.2.1 = some (ty k)) (hcl : (Cond.classLink own index C).before args s = true) (hinst : (Cond.instantiable C N).before args s = true) (hini : (Cond.initialized C).before args s = true) (hc : vwCl[ci]? = some (C, T, N)) (k : Nat) (hk : ¬ lv k) {fs : List Value} (hfs : ∀ j, j < N → defaultValue (ty j) = vp_V fs j) (hcells : cells + 1 ≤ R.cells) (hslots : slots + N ≤ R.slots) (hdg : decode cc pc = .ok (.new index, 3))
    (kk : ∀ (ad1 : Nat → Nat) (H1 : Heap), (∀ j, lv j → ad1 j = ad j) → gW D Hb (fun j => lv j ∨ j = k) ad1 (va_up ce k (.inr (ci, fs))) H1 → W p l e R s m args below meth c H1 locs (cells + 1) (slots + N) Q (F0 m (pc + 3) ls (.ref (ad1 k) :: rest))) : W p l e R s m args below meth c H locs cells slots Q (F0 m pc ls rest) :=
  have ha : ∀ j, lv j → va_up ad k H.size j = ad j := fun j hj => va_up_ne _ _ (fun e => hk (e ▸ hj))
  g_new (ad := va_up ad k H.size) S hK (hG.re (fun _ h => h) ha (fun _ _ => rfl)) hin ty hty hcl hinst hini hc k hk (va_up_self _ _ _) hfs hcells hslots hdg (fun H1 g _ => kk _ H1 ha g)
theorem z_newq (S : CallFix p m c cc nL s args Ts own) (hK : va_K D vwCl (tyL cI cZ cB cO cR cJ) s) (hG : gW D Hb lv ad ce H) {index : Nat} (hclink : (Cond.classLink own index "java/lang/Object").before args s = true) (hover : va_AO "java/lang/Object" s) (k : Nat) (hk : ¬ lv k) {n : Int32} {N' : Nat} (hn : ¬ n < 0) (hN : n.toNatClampNeg = N') (hbytes : N' * 4 ≤ 536870912) (hcells : cells + 1 ≤ R.cells) (hslots : slots + N' ≤ R.slots) (hdg : decode cc pc = .ok (.anewarray index, 3))
    (kk : ∀ (ad1 : Nat → Nat) (H1 : Heap), (∀ j, lv j → ad1 j = ad j) → gW D Hb (fun j => lv j ∨ j = k) ad1 (va_up ce k (.inl (cO, N', .inr (.inr (.inr (.inr (fun _ => none))))))) H1 → W p l e R s m args below meth c H1 locs (cells + 1) (slots + N') Q (F0 m (pc + 3) ls (.ref (ad1 k) :: rest))) : W p l e R s m args below meth c H locs cells slots Q (F0 m pc ls (.int n :: rest)) := by
  subst hN
  have ha : ∀ j, lv j → va_up ad k H.size j = ad j := fun j hj => va_up_ne _ _ (fun e => hk (e ▸ hj))
  obtain ⟨kA0, comp0, r1, r2, r3, r4⟩ := (hK.2 3 _ rfl).2
  refine W.anew S.1 S.2.1 S.2.2.2.1 hclink (va_AO.use hover) rfl hdg rfl hn hbytes hcells hslots fun cA kA comp f1 f2 f3 f4 => ?_
  have hcc : cA = cO := Option.some.inj (f1.symm.trans r4)
  subst hcc
  generalize hH1 : H.push ({ cls := cA, slots := Array.replicate n.toNatClampNeg .null, vm := .none } : Cell) = H1
  have z1 : H1.size = H.size + 1 := by rw [← hH1, Array.size_push]
  have e1 : H1[H.size]? = some (arrV cA n.toNatClampNeg (fun _ => .null)) := by rw [← hH1, Array.getElem?_push_size, ← arrV_new]
  have o1 : ∀ q : Nat, q < H.size → H1[q]? = H[q]? := fun q hq => by rw [← hH1, Array.getElem?_push, if_neg (Nat.ne_of_lt hq)]
  have w := kk (va_up ad k H.size) H1 ha ((hG.re (fun _ h => h) ha (fun _ _ => rfl)).pushA hk (va_up_self _ _ _) (by show H1[va_up ad k H.size k]? = some (vp_cell _ _); rw [va_up_self, vp_cell_q]; exact e1) z1 o1)
  rw [va_up_self] at w
  exact w
theorem g_aast (S : CallFix p m c cc nL s args Ts own) (hK : va_K D vwCl (tyL cI cZ cB cO cR cJ) s) (hG : gW D Hb lv ad ce H) (hL : gL Hb locs) (k : Nat) (hk : lv k) {n : Nat} {f : Nat → Option Nat} (ha : ce k = .inl (cO, n, .inr (.inr (.inr (.inr f))))) (ko : Nat) (hko : lv ko) {ci : Nat} {fs : List Value} {q : vw_C} (ho : ce ko = .inr (ci, fs)) (hc : vwCl[ci]? = some q) (hca : va_Nw (.castable q.1 "java/lang/Object") s) {i : Int32} (hin : vp_in i n) (hdg : decode cc pc = .ok (.aastore, 1))
    (kk : ∀ (H1 : Heap) (locs1 : List Loc), gW D Hb lv ad (va_up ce k (.inl (cO, n, .inr (.inr (.inr (.inr (va_up f i.toNatClampNeg (some (ad ko)))))))) ) H1 → gL Hb locs1 → W p l e R s m args below meth c H1 locs1 cells slots Q (F0 m (pc + 1) ls rest)) : W p l e R s m args below meth c H locs cells slots Q (F0 m pc ls (.ref (ad ko) :: .int i :: .ref (ad k) :: rest)) := by
  have hlt : i.toNatClampNeg < n := Nat.not_le.mp fun q => hin (Or.inr q)
  have h0 : ¬ i < 0 := fun q => hin (Or.inl q)
  obtain ⟨r', hr', cellV, g1, g2, g3, -⟩ := (hG.one hko ho) 0 _ rfl
  have hcls := (hK.1 ci q hc).2
  obtain ⟨kA, comp, k1, k2, k3, -⟩ := (hK.2 3 _ rfl).2
  obtain ⟨kE, hkE, -⟩ := Vm.findClass_spec k3
  obtain ⟨c0, t1, f1, f2, f3⟩ := Cond.castable_spec (va_Nw.use (A := args) rfl hca)
  cases hcls.1.symm.trans f1
  cases k3.symm.trans f2
  obtain ⟨kC, hkC, -⟩ := hcls.2
  refine W.aast S.1 S.2.1 ((hG.one hk ha) 0 _ rfl) (fun q h => by cases h) (fun h => by cases h) k1 k2 rfl hkE ⟨h0, by show _ < (arrV _ _ _).slots.size; rw [arrV_size]; exact hlt⟩ g1 (fun q h => by rw [g3] at h; cases h) (by rw [g2]; exact hkC) (by rw [g2]; exact f3) rfl rfl hdg fun H1 e z oq => ?_
  refine kk H1 _ (hG.set hk ?_ z oq) (hL.put (hG.2.2.1 k hk))
  show H1[ad k]? = some (vp_cell _ _)
  rw [e]
  rw [vp_cell_q, vp_cell_q, arrV_store]
  congr 2
  funext q
  by_cases hq : q = i.toNatClampNeg
  · subst hq
    simp [updV, va_up, va_rf]
  · simp [updV, va_up, hq]
/-- a row of references is copied; nothing was written yet in this method -/
theorem g_copyq (S : CallFix p m c cc nL s args Ts own) (hml : c.maxLocals = ls.size) {index : Nat} (hlink : (Cond.methodLink own index arraycopyName).before args s = true) (hnat : (Cond.native arraycopyName).before args s = true) (hstat : (Cond.static arraycopyName).before args s = true) (hini : (Cond.initialized "java/lang/System").before args s = true) (hK : va_K D vwCl (tyL cI cZ cB cO cR cJ) s) (hG : gW D Hb lv ad ce H) (k0 k1 : Nat) (hk0 : lv k0) (hk1 : lv k1) (hne : ¬ k0 = k1) {n0 n1 : Nat} {f g : Nat → Option Nat} (ha0 : ce k0 = .inl (cO, n0, .inr (.inr (.inr (.inr f))))) (ha1 : ce k1 = .inl (cO, n1, .inr (.inr (.inr (.inr g))))) {ci : Nat} {q : vw_C} (hc : vwCl[ci]? = some q) (hca : va_Nw (.castable q.1 "java/lang/Object") s)
    {sp dp n : Int32} (h1 : ¬ sp < 0) (h2 : ¬ dp < 0) (h3 : ¬ n < 0) (h4 : sp.toNatClampNeg + n.toNatClampNeg ≤ n0) (h5 : dp.toNatClampNeg + n.toNatClampNeg ≤ n1) (hel : ∀ i : Nat, i < n.toNatClampNeg → ∀ y : Nat, f (sp.toNatClampNeg + i) = some y → ∃ ko fs, lv ko ∧ y = ad ko ∧ ce ko = .inr (ci, fs))
    (hframes : 1 ≤ R.frames) (hlocals : (rest.map fun v => v.category).sum + (nativeFrameWords "java/lang/System" "arraycopy" 5 + 11) ≤ R.locals) (hdg : decode cc pc = .ok (.invokestatic index, 3))
    (kk : ∀ (H1 : Heap) (locs1 : List Loc), gW D Hb lv ad (va_up ce k1 (.inl (cO, n1, .inr (.inr (.inr (.inr (va_cpy f g sp.toNatClampNeg dp.toNatClampNeg n.toNatClampNeg))))))) H1 → gL Hb locs1 → W p l e R s m args below meth c H1 locs1 cells slots Q (F0 m (pc + 3) ls rest)) : W p l e R s m args below meth c H [] cells slots Q (F0 m pc ls (.int n :: .int dp :: .ref (ad k1) :: .int sp :: .ref (ad k0) :: rest)) := by
  have hap : ¬ ad k0 = ad k1 := fun z => hne (hG.2.1 _ _ hk0 hk1 z)
  have hP : va_P D vwCl [(ad k0, .inl (cO, n0, .inr (.inr (.inr (.inr f))))), (ad k1, .inl (cO, n1, .inr (.inr (.inr (.inr g)))))] H := by
    intro j x hx
    match j with
    | 0 => cases hx; rw [← ha0]; exact hG.1 k0 hk0
    | 1 => cases hx; rw [← ha1]; exact hG.1 k1 hk1
    | j + 2 => cases hx
  have hD : va_D (fun q => q = ad k0 ∨ q = ad k1) [(ad k0, (.inl (cO, n0, .inr (.inr (.inr (.inr f)))) : va_E)), (ad k1, .inl (cO, n1, .inr (.inr (.inr (.inr g)))))] := by
    refine ⟨fun i j x y hx hy e => ?_, fun j x hx => ?_⟩
    · match i, j with
      | 0, 0 => rfl
      | 1, 1 => rfl
      | 0, 1 => cases hx; cases hy; exact absurd e hap
      | 1, 0 => cases hx; cases hy; exact absurd e.symm hap
      | 0, j + 2 => cases hy
      | 1, j + 2 => cases hy
      | i + 2, _ => cases hx
    · match j with
      | 0 => cases hx; exact Or.inl rfl
      | 1 => cases hx; exact Or.inr rfl
      | j + 2 => cases hx
  have hcls := (hK.1 ci q hc).2
  obtain ⟨c0, t1, f1, f2, f3⟩ := Cond.castable_spec (va_Nw.use (A := args) rfl hca)
  refine va_copyq (A := fun q => q = ad k0 ∨ q = ad k1) (H0 := H) (C := q.1) S.1 S.2.1 hml S.2.2.2.1 hlink hnat hstat hini hK hP hD ⟨Nat.le_refl _, fun _ _ _ => rfl, (by intro x h; cases h)⟩ 0 1 3 3 rfl rfl rfl rfl h1 h2 h3 h4 h5 (fun i hi y hy => ?_) (fun comp c1 e1 e2 => ?_) hframes hlocals hdg (fun H1 locs1 p1 _ s1 => kk H1 locs1 (hG.setL hk1 (p1 1 _ rfl) s1.1 (fun x hx hxn => ?_)) (fun x hx => ?_))
  · obtain ⟨ko, fs, hko, hy2, ho⟩ := hel i hi y hy
    obtain ⟨r', hr', cellV, g1, g2, g3, -⟩ := (hG.one hko ho) 0 _ rfl
    exact ⟨cellV, by rw [hy2]; exact g1, by rw [g3]; rfl, by rw [g2]; exact hcls.1⟩
  · cases e1.symm.trans f2
    cases e2.symm.trans f1
    exact f3
  · by_cases z : x = ad k0
    · subst z
      have q0 : va_at D vwCl (ad k0, .inl (cO, n0, .inr (.inr (.inr (.inr f))))) H1 := p1 0 _ rfl
      have q1 : va_at D vwCl (ad k0, .inl (cO, n0, .inr (.inr (.inr (.inr f))))) H := hP 0 _ rfl
      have e0 : H1[ad k0]? = some (vp_cell cO (n0, .inr (.inr (.inr (.inr f))))) := q0
      have e2 : H[ad k0]? = some (vp_cell cO (n0, .inr (.inr (.inr (.inr f))))) := q1
      rw [e0, e2]
    · exact s1.2.1 x hx (fun h => h.elim z hxn)
  · rcases s1.2.2 x hx with z | z
    · rw [z]; exact hG.2.2.1 k0 hk0
    · rw [z]; exact hG.2.2.1 k1 hk1
/-- behind a call of a method that makes a cell -/
theorem n_back {mc ms k' : Nat} {rvf : (Nat → Nat) → Option Value} {cef : (Nat → Nat) → Nat → va_E} {a : Array Value} (hr : va_Run p l e R s m args below meth c H locs cells slots mc ms (F0 m pc ls st0) rest (nQ D Hb lv ad k' rvf cef a) (gA Hb)) (hL : gL Hb locs)
    (kk : ∀ (ad1 : Nat → Nat) (H1 : Heap) (locs1 : List Loc), (∀ j, lv j → ad1 j = ad j) → gW D Hb (fun j => lv j ∨ j = k') ad1 (cef ad1) H1 → gL Hb locs1 → W p l e R s m args below meth c H1 locs1 (cells + mc) (slots + ms) Q (F0 m (pc + 3) ls ((rvf ad1).toList ++ rest))) : W p l e R s m args below meth c H locs cells slots Q (F0 m pc ls st0) := by
  intro T hT X
  obtain ⟨v, st₀, t, T', L, h0, X', hLL, e1, e2, ⟨ad1, ha, hv, hg⟩, st⟩ := hr T hT X
  cases hv
  obtain ⟨t2, a1, b1⟩ := kk ad1 T'.heap (locs ++ L) ha (by rw [e1]; exact hg) (hL.app hLL) T' rfl X'
  exact ⟨t2, st t2 a1, b1⟩
theorem n_callV {y : MethodName} {ws ws' : List Cond} {rm : Room} {mc ms n index maxL k' : Nat} {bytes : ByteArray} {ret : Option FieldType} {rvf : (Nat → Nat) → Option Value} {cef : (Nat → Nat) → Nat → va_E} {As : List Value} {k ci : Nat} {q : vw_C} {fs : List Value}
    (S : kX p m c cc nL s args Ts own D tys Hb K) (hG : gW D Hb lv ad ce H) (hL : gL Hb locs) (hk : lv k) (he : ce k = .inr (ci, fs)) (hc : vwCl[ci]? = some q)
    (hM : Met l y ws rm (va_Pc (.ref (ad k) :: As) (kP D tys Hb K lv ad ce)) (nQ D Hb lv ad k' rvf cef) mc ms (gA Hb)) (gd : GoodIn Ts (wsV own index q.1 y ws)) (hw : ws = Cond.code y bytes maxL ret :: ws') (hrm : rm.cells = mc ∧ rm.slots = ms)
    (hd : y.cls = q.1 ∧ y.cls ≠ "java/lang/invoke/MethodHandle" ∧ y.cls ≠ "java/lang/invoke/VarHandle" ∧ (parseMethodDescriptor y.desc).map (fun d => d.parameters.length) = some n) (hR : rm.frames + 1 ≤ R.frames ∧ 8 + (maxL + 11) + rm.locals ≤ R.locals)
    (hn : As.length = n) (hsize : ls.size = nL) (hst : st0 = As.reverse ++ .ref (ad k) :: rest) (hW : (rest.map fun v => v.category).sum ≤ 8) (hdg : decode cc pc = .ok (.invokevirtual index, 3)) (hf : cells + mc ≤ R.cells ∧ slots + ms ≤ R.slots)
    (kk : ∀ (ad1 : Nat → Nat) (H1 : Heap) (locs1 : List Loc), (∀ j, lv j → ad1 j = ad j) → gW D Hb (fun j => lv j ∨ j = k') ad1 (cef ad1) H1 → gL Hb locs1 → W p l e R s m args below meth c H1 locs1 (cells + mc) (slots + ms) Q (F0 m (pc + 3) ls ((rvf ad1).toList ++ rest))) : W p l e R s m args below meth c H locs cells slots Q (F0 m pc ls st0) :=
  n_back (va_runV (b := ad k) S.1 hM (cwV n S.1.2.2.2.2 gd hw hrm.1 hrm.2 hd hR) ⟨kP.blind, va_recv S.2.1 (hG.one hk he) hc (q0 := 0) rfl, fun U hU hW => ⟨rfl, by rw [hU]; exact hG, va_K.moved hW.alike S.2.1, kE.warm hW S.2.2⟩⟩ rfl hn hsize hst (by show 2 * 0 + _ ≤ 8; omega) hdg hf) hL kk
theorem n_callS {y : MethodName} {ws ws' : List Cond} {rm : Room} {mc ms n index maxL k' : Nat} {bytes : ByteArray} {ret : Option FieldType} {rvf : (Nat → Nat) → Option Value} {cef : (Nat → Nat) → Nat → va_E} {As : List Value}
    (S : kX p m c cc nL s args Ts own D tys Hb K) (hG : gW D Hb lv ad ce H) (hL : gL Hb locs)
    (hM : Met l y ws rm (va_Pc As (kP D tys Hb K lv ad ce)) (nQ D Hb lv ad k' rvf cef) mc ms (gA Hb)) (gd : GoodIn Ts (va_wsS own index y ws)) (hw : ws = Cond.code y bytes maxL ret :: ws') (hrm : rm.cells = mc ∧ rm.slots = ms)
    (hd : y.cls ≠ "java/lang/invoke/MethodHandle" ∧ y.cls ≠ "java/lang/invoke/VarHandle" ∧ (parseMethodDescriptor y.desc).map (fun d => d.parameters.length) = some n) (hR : rm.frames + 1 ≤ R.frames ∧ 8 + (maxL + 11) + rm.locals ≤ R.locals)
    (hn : As.length = n) (hsize : ls.size = nL) (hst : st0 = As.reverse ++ rest) (hW : (rest.map fun v => v.category).sum ≤ 8) (hdg : decode cc pc = .ok (.invokestatic index, 3)) (hf : cells + mc ≤ R.cells ∧ slots + ms ≤ R.slots)
    (kk : ∀ (ad1 : Nat → Nat) (H1 : Heap) (locs1 : List Loc), (∀ j, lv j → ad1 j = ad j) → gW D Hb (fun j => lv j ∨ j = k') ad1 (cef ad1) H1 → gL Hb locs1 → W p l e R s m args below meth c H1 locs1 (cells + mc) (slots + ms) Q (F0 m (pc + 3) ls ((rvf ad1).toList ++ rest))) : W p l e R s m args below meth c H locs cells slots Q (F0 m pc ls st0) :=
  n_back (va_runS S.1 hM (va_cwS n S.1.2.2.2.2 gd hw hrm.1 hrm.2 hd hR) ⟨kP.blind, fun U hU hW => ⟨rfl, by rw [hU]; exact hG, va_K.moved hW.alike S.2.1, kE.warm hW S.2.2⟩⟩ rfl hn hsize hst (by show 2 * 0 + _ ≤ 8; omega) hdg hf) hL kk
/-- a constructor is called -/
theorem k_callI {y : MethodName} {ws ws' : List Cond} {rm : Room} {mc ms n index maxL : Nat} {bytes : ByteArray} {rv : Option Value} {As : List Value} {k : Nat}
    (S : kX p m c cc nL s args Ts own D tys Hb K) (hG : gW D Hb lv ad ce H) (hL : gL Hb locs)
    (hM : Met l y ws rm (va_Pc (.ref (ad k) :: As) (kP D tys Hb K lv ad ce)) (gQ D Hb lv ad rv ce') mc ms (gA Hb)) (cw : CallB R s args own index y bytes maxL none ws rm mc ms n ∧ y.name = "<init>" ∧ (Cond.instanceMethod y).before args s = true)
    (hn : As.length = n) (hsize : ls.size = nL) (hst : st0 = As.reverse ++ .ref (ad k) :: rest) (hW : (rest.map fun v => v.category).sum ≤ 8) (hdg : decode cc pc = .ok (.invokespecial index, 3)) (hf : cells + mc ≤ R.cells ∧ slots + ms ≤ R.slots) (h1 : rv.toList ++ rest = st1)
    (kk : ∀ (H1 : Heap) (locs1 : List Loc), gW D Hb lv ad ce' H1 → gL Hb locs1 → W p l e R s m args below meth c H1 locs1 (cells + mc) (slots + ms) Q (F0 m (pc + 3) ls st1)) : W p l e R s m args below meth c H locs cells slots Q (F0 m pc ls st0) :=
  g_back (va_runI (b := ad k) S.1 hM cw ⟨kP.blind, fun U hU hW => ⟨rfl, by rw [hU]; exact hG, va_K.moved hW.alike S.2.1, kE.warm hW S.2.2⟩⟩ rfl hn hsize hst (by show 2 * 0 + _ ≤ 8; omega) hdg hf) hL (fun H1 l1 a b => by rw [h1]; exact kk H1 l1 a b)
/-- .. and a nest mate's -/
theorem k_callIN {y : MethodName} {ws ws' : List Cond} {rm : Room} {mc ms n index maxL : Nat} {bytes : ByteArray} {rv : Option Value} {As : List Value} {k : Nat}
    (S : kX p m c cc nL s args Ts own D tys Hb K) (hG : gW D Hb lv ad ce H) (hL : gL Hb locs)
    (hM : Met l y ws rm (va_Pc (.ref (ad k) :: As) (kP D tys Hb K lv ad ce)) (gQ D Hb lv ad rv ce') mc ms (gA Hb)) (cw : va_CN R s args own index y "SwarmLine" bytes maxL none ws rm mc ms n ∧ y.name = "<init>" ∧ (Cond.instanceMethod y).before args s = true)
    (hn : As.length = n) (hsize : ls.size = nL) (hst : st0 = As.reverse ++ .ref (ad k) :: rest) (hW : (rest.map fun v => v.category).sum ≤ 8) (hdg : decode cc pc = .ok (.invokespecial index, 3)) (hf : cells + mc ≤ R.cells ∧ slots + ms ≤ R.slots) (h1 : rv.toList ++ rest = st1)
    (kk : ∀ (H1 : Heap) (locs1 : List Loc), gW D Hb lv ad ce' H1 → gL Hb locs1 → W p l e R s m args below meth c H1 locs1 (cells + mc) (slots + ms) Q (F0 m (pc + 3) ls st1)) : W p l e R s m args below meth c H locs cells slots Q (F0 m pc ls st0) :=
  g_back (va_runIN (b := ad k) S.1 hM cw ⟨kP.blind, fun U hU hW => ⟨rfl, by rw [hU]; exact hG, va_K.moved hW.alike S.2.1, kE.warm hW S.2.2⟩⟩ rfl hn hsize hst (by show 2 * 0 + _ ≤ 8; omega) hdg hf) hL (fun H1 l1 a b => by rw [h1]; exact kk H1 l1 a b)
theorem n_aret {k' mc ms : Nat} {rvf : (Nat → Nat) → Option Value} {cef : (Nat → Nat) → Nat → va_E} {ad1 : Nat → Nat} {v : Value} {lv1 : Nat → Prop} {ce1 : Nat → va_E} {rt : FieldType} (S : CallFix p m c cc nL s args Ts own) (hr : meth.sig.returnType = some rt) (hrt : (∃ n, rt = .object n) ∨ ∃ t, rt = .array t) (hlocks : meth.locks = false) (hG : gW D Hb lv1 ad1 ce1 H) (hL : gL Hb locs) (hv : v = .null ∨ ∃ a, v = .ref a) (ha : ∀ j, lv j → ad1 j = ad j) (e1 : rvf ad1 = some v) (e0 : ∀ j, lv j ∨ j = k' → lv1 j) (e2 : cef ad1 = ce1) (hdg : decode cc pc = .ok (.areturn, 1)) (hc : cells ≤ mc) (hs : slots ≤ ms) : W p l e R s m args below meth c H locs cells slots (MQ below (nQ D Hb lv ad k' rvf cef) args s mc ms (gA Hb)) (F0 m pc ls [v]) :=
  W.widen hc hs (W.aret S.1 S.2.1 hr hrt hv (fun t ht _ => ⟨ad1, ha, by rw [e1], by rw [ht, e2]; exact hG.less e0⟩) hL hdg hlocks)
theorem n_vret {k' mc ms : Nat} {rvf : (Nat → Nat) → Option Value} {cef : (Nat → Nat) → Nat → va_E} {ad1 : Nat → Nat} {lv1 : Nat → Prop} {ce1 : Nat → va_E} (S : CallFix p m c cc nL s args Ts own) (hr : meth.sig.returnType = none) (hlocks : meth.locks = false) (hG : gW D Hb lv1 ad1 ce1 H) (hL : gL Hb locs) (ha : ∀ j, lv j → ad1 j = ad j) (e1 : rvf ad1 = none) (e0 : ∀ j, lv j ∨ j = k' → lv1 j) (e2 : cef ad1 = ce1) (hdg : decode cc pc = .ok (.return_, 1)) (hc : cells ≤ mc) (hs : slots ≤ ms) : W p l e R s m args below meth c H locs cells slots (MQ below (nQ D Hb lv ad k' rvf cef) args s mc ms (gA Hb)) (F0 m pc ls []) :=
  W.widen hc hs (W.vret S.1 S.2.1 hr (fun t ht _ => ⟨ad1, ha, by rw [e1], by rw [ht, e2]; exact hG.less e0⟩) hL hdg hlocks)
theorem n_zret {k' mc ms : Nat} {rvf : (Nat → Nat) → Option Value} {cef : (Nat → Nat) → Nat → va_E} {ad1 : Nat → Nat} {v : Int32} {lv1 : Nat → Prop} {ce1 : Nat → va_E} (S : CallFix p m c cc nL s args Ts own) (hr : meth.sig.returnType = some .boolean) (hlocks : meth.locks = false) (hn : narrow .boolean (.int v) = .int v) (hG : gW D Hb lv1 ad1 ce1 H) (hL : gL Hb locs) (ha : ∀ j, lv j → ad1 j = ad j) (e1 : rvf ad1 = some (.int v)) (e0 : ∀ j, lv j ∨ j = k' → lv1 j) (e2 : cef ad1 = ce1) (hdg : decode cc pc = .ok (.ireturn, 1)) (hc : cells ≤ mc) (hs : slots ≤ ms) : W p l e R s m args below meth c H locs cells slots (MQ below (nQ D Hb lv ad k' rvf cef) args s mc ms (gA Hb)) (F0 m pc ls [.int v]) :=
  W.widen hc hs (W.zret S.1 S.2.1 hr hn (fun t ht _ => ⟨ad1, ha, by rw [e1], by rw [ht, e2]; exact hG.less e0⟩) hL hdg hlocks)
end ZRW
