/-! the law's helpers: a call of the class, what it throws turned into a number -/
def hN5 : List String := ["java/lang/IndexOutOfBoundsException", "java/lang/IllegalArgumentException", "java/lang/IllegalStateException", "java/lang/UnsupportedOperationException", "java/util/NoSuchElementException"]
def hNc (U : State) : Prop := ∀ E ∈ hN5, ∀ F ∈ hN5, E ≠ F → va_Nc E F U
theorem hNc.moved {u U : State} (hvm : u.vm.Alike U.vm) (h : hNc u) : hNc U := fun E hE F hF n => va_Nc.moved hvm (h E hE F hF n)
def hP (D : va_G) (tys : List (ClassId × FieldType)) (Hb : Heap) (K : kTx) (lv : Nat → Prop) (ad : Nat → Nat) (ce : Nat → va_E) (U : State) : Prop := kP D tys Hb K lv ad ce U ∧ hNc U
/-- the class's calls, all in one form -/
def cQ (D : va_G) (Hb : Heap) (l0 : Nat → Prop) (ad : Nat → Nat) (thr : Option String) (rv : Option Value) (ce0 : Nat → va_E) (eA : Nat) (cI cB cO cR : ClassId) (s : Nat → Int32) (r : Nat → Nat → Int32) : Array Value → State → Outcome → State → Prop := fun a st oc t => thr = none ∧ mQ D Hb l0 ad (lvA l0) rv ce0 eA cI cB cO cR s r a st oc t
def cX (D : va_G) (Hb : Heap) (l0 : Nat → Prop) (ad : Nat → Nat) (thr : Option String) (ce0 : Nat → va_E) (eA : Nat) (cI cB cO cR : ClassId) (s : Nat → Int32) (r : Nat → Nat → Int32) : String → State → State → Prop := fun E _ t => thr = some E ∧ gW D Hb (lvC l0 s) ad (kJ ce0 ad eA cI cB cO cR s r) t.heap
theorem c_ofx {l : Launch} {y : MethodName} {ws : List Cond} {rm : Room} {Pc : Array Value → State → Prop} {D : va_G} {Hb : Heap} {l0 : Nat → Prop} {ad : Nat → Nat} {thr : Option String} {rv : Option Value} {ce0 : Nat → va_E} {eA : Nat} {cI cB cO cR : ClassId} {s s1 s2 : Nat → Int32} {r1 r2 : Nat → Nat → Int32} {mc ms : Nat}
    (h : vx_Met l y ws rm Pc (xQ D Hb (lvC l0 s) ad thr rv (kJ ce0 ad eA cI cB cO cR s1 r1)) (xX D Hb (lvC l0 s) ad thr (kJ ce0 ad eA cI cB cO cR s2 r2)) mc ms (gA Hb)) (h1 : thr = none → lvC l0 s1 = lvC l0 s) (h2 : lvC l0 s2 = lvC l0 s) :
    vx_Met l y ws rm Pc (cQ D Hb l0 ad thr rv ce0 eA cI cB cO cR s1 r1) (cX D Hb l0 ad thr ce0 eA cI cB cO cR s2 r2) mc ms (gA Hb) := by
  refine MetFree.mono h (fun _ _ q => q) (fun _ _ _ _ _ q => q) (fun a st o t _ hq => ?_)
  rcases hq with ⟨⟨e1, hv, hg⟩, hL⟩ | ⟨q, e1, E, c9, L, ⟨e2, hg⟩, q1, q2, q3, q4, q5, q6⟩
  · exact Or.inl ⟨⟨e1, ad, fun _ _ => rfl, hv, by rw [h1 e1]; exact hg⟩, hL⟩
  · exact Or.inr ⟨q, e1, E, c9, L, ⟨e2, by rw [h2]; exact hg⟩, q1, q2, q3, q4, q5, q6⟩
theorem c_ofm {l : Launch} {y : MethodName} {ws : List Cond} {rm : Room} {Pc : Array Value → State → Prop} {D : va_G} {Hb : Heap} {l0 : Nat → Prop} {ad : Nat → Nat} {thr : Option String} {rv : Option Value} {ce0 : Nat → va_E} {eA : Nat} {cI cB cO cR : ClassId} {s1 s2 : Nat → Int32} {r1 r2 : Nat → Nat → Int32} {mc ms : Nat} (ht : thr = none)
    (h : Met l y ws rm Pc (mQ D Hb l0 ad (lvA l0) rv ce0 eA cI cB cO cR s1 r1) mc ms (gA Hb)) :
    vx_Met l y ws rm Pc (cQ D Hb l0 ad thr rv ce0 eA cI cB cO cR s1 r1) (cX D Hb l0 ad thr ce0 eA cI cB cO cR s2 r2) mc ms (gA Hb) :=
  MetFree.mono h (fun _ _ q => q) (fun _ _ _ _ _ q => q) (fun _ _ _ _ _ hq => Or.inl ⟨⟨ht, hq.1⟩, hq.2⟩)
theorem c_ofk {l : Launch} {y : MethodName} {ws : List Cond} {rm : Room} {Pc : Array Value → State → Prop} {D : va_G} {Hb : Heap} {l0 : Nat → Prop} {ad : Nat → Nat} {thr : Option String} {rv : Option Value} {ce0 : Nat → va_E} {eA : Nat} {cI cB cO cR : ClassId} {s s1 s2 : Nat → Int32} {r1 r2 : Nat → Nat → Int32} {mc ms : Nat} (ht : thr = none)
    (h : Met l y ws rm Pc (gQ D Hb (lvC l0 s) ad rv (kJ ce0 ad eA cI cB cO cR s1 r1)) mc ms (gA Hb)) (h1 : lvC l0 s1 = lvC l0 s) :
    vx_Met l y ws rm Pc (cQ D Hb l0 ad thr rv ce0 eA cI cB cO cR s1 r1) (cX D Hb l0 ad thr ce0 eA cI cB cO cR s2 r2) mc ms (gA Hb) :=
  MetFree.mono h (fun _ _ q => q) (fun _ _ _ _ _ q => q) (fun _ _ _ _ _ hq => Or.inl ⟨⟨ht, ad, fun _ _ => rfl, hq.1.1, by rw [h1]; exact hq.1.2⟩, hq.2⟩)
theorem kJ_99 {ce0 : Nat → va_E} {ad : Nat → Nat} {eA : Nat} {cI cB cO cR : ClassId} {s : Nat → Int32} {r : Nat → Nat → Int32} {x : va_E} : va_up (kJ ce0 ad eA cI cB cO cR s r) 99 x = kJ (va_up ce0 99 x) ad eA cI cB cO cR s r := by
  funext k
  by_cases h : k = 99
  · subst h
    rfl
  · by_cases h2 : k < 100
    · unfold kJ va_up
      simp only [h, h2, if_true, if_false]
    · unfold kJ va_up
      simp only [h, h2, if_false]
/-- how a helper ends: its number, what lies in out, the class's state -/
def hq (D : va_G) (Hb : Heap) (l0 : Nat → Prop) (ad : Nat → Nat) (ce0 : Nat → va_E) (eA : Nat) (cI cB cO cR cJ : ClassId) (k : Int32) (ov : Option Int32) (s : Nat → Int32) (r : Nat → Nat → Int32) (oc : Outcome) (t : State) : Prop :=
  ∃ (ad' : Nat → Nat) (f' : Nat → Int64), (∀ j, lvA l0 j → ad' j = ad j) ∧ oc = .returned (some (.int k)) ∧ (∀ v, ov = some v → f' 0 = v.toInt64) ∧ gW D Hb (lvC l0 s) ad' (kJ (va_up ce0 99 (.inl (cJ, 1, .inr (.inl f')))) ad' eA cI cB cO cR s r) t.heap
/-- the number of what is thrown -/
def hKd (cs : List String) (E : String) : Int32 := nI (cs.idxOf E + 1)
def hQ (D : va_G) (Hb : Heap) (l0 : Nat → Prop) (ad : Nat → Nat) (ce0 : Nat → va_E) (eA : Nat) (cI cB cO cR cJ : ClassId) (cs : List String) (thr : Option String) (ov : Option Int32) (s1 : Nat → Int32) (r1 : Nat → Nat → Int32) (s2 : Nat → Int32) (r2 : Nat → Nat → Int32) : Array Value → State → Outcome → State → Prop := fun _ _ oc t =>
  (thr = none ∧ hq D Hb l0 ad ce0 eA cI cB cO cR cJ 0 ov s1 r1 oc t) ∨ ∃ E, thr = some E ∧ hq D Hb l0 ad ce0 eA cI cB cO cR cJ (hKd cs E) none s2 r2 oc t
section HRW
variable {p : Program} {l : Launch} {e : Env} {R : Room} {s : State} {m : MethodId} {args : Array Value} {below : List Frame} {meth : Method} {c : Code} {H : Heap} {locs : List Loc} {cells slots : Nat} {Q : State → Prop}
variable {cc : ByteArray} {pc nL : Nat} {ls : Array Slot} {rest st0 : List Value} {D : va_G} {tys : List (ClassId × FieldType)} {Hb : Heap} {K : kTx} {l0 lv : Nat → Prop} {ad : Nat → Nat} {ce ce0 : Nat → va_E} {Ts : List Cond} {own : String} {eA : Nat} {cI cB cO cR : ClassId}
theorem g_last (S : CallFix p m c cc nL s args Ts own) (hK : va_K D vwCl tys s) (hG : gW D Hb lv ad ce H) (hL : gL Hb locs) (k : Nat) (hk : lv k) (t0 : Nat) {cA : ClassId} {n : Nat} {f : Nat → Int64} (ha : ce k = .inl (cA, n, .inr (.inl f))) (ht : tys[t0]? = some (cA, .long)) {i : Int32} {x : Int64} (hin : vp_in i n) (hdg : decode cc pc = .ok (.lastore, 1))
    (kk : ∀ (H1 : Heap) (locs1 : List Loc), gW D Hb lv ad (va_up ce k (.inl (cA, n, .inr (.inl (vp_updL f i.toNatClampNeg x))))) H1 → gL Hb locs1 → W p l e R s m args below meth c H1 locs1 cells slots Q (F0 m (pc + 1) ls rest)) : W p l e R s m args below meth c H locs cells slots Q (F0 m pc ls (.long x :: .int i :: .ref (ad k) :: rest)) := by
  refine W.last S.1 S.2.1 ((hG.one hk ha) 0 _ rfl) ((hK.2 t0 _ ht).1 n (fun j => .long (f j))) (fun q => by cases q) (by show ¬ (i < 0 ∨ (arrV _ _ _).slots.size ≤ _); rw [arrV_size]; exact hin) rfl rfl hdg fun H1 e z oq => ?_
  refine kk H1 _ (hG.set hk ?_ z oq) (hL.put (hG.2.2.1 k hk))
  show H1[ad k]? = some (vp_cell _ _)
  rw [e, vp_cell_l, vp_cell_l, arrV_store]
  congr 2
  funext q
  by_cases hq : q = i.toNatClampNeg
  · subst hq
    simp [updV, vp_updL]
  · simp [updV, vp_updL, hq]
theorem g_lald (S : CallFix p m c cc nL s args Ts own) (hK : va_K D vwCl tys s) (hG : gW D Hb lv ad ce H) (k : Nat) (hk : lv k) (t0 : Nat) {cA : ClassId} {n : Nat} {f : Nat → Int64} (ha : ce k = .inl (cA, n, .inr (.inl f))) (ht : tys[t0]? = some (cA, .long)) {i : Int32} (hin : vp_in i n) (hdg : decode cc pc = .ok (.laload, 1))
    (kk : W p l e R s m args below meth c H locs cells slots Q (F0 m (pc + 1) ls (.long (f i.toNatClampNeg) :: rest))) : W p l e R s m args below meth c H locs cells slots Q (F0 m pc ls (.int i :: .ref (ad k) :: rest)) := by
  have hlt : i.toNatClampNeg < n := Nat.not_le.mp fun q => hin (Or.inr q)
  exact W.lald (v := .long (f i.toNatClampNeg)) S.1 S.2.1 ((hG.one hk ha) 0 _ rfl) ((hK.2 t0 _ ht).1 n (fun j => .long (f j))) (fun q => by cases q) (by show ¬ (i < 0 ∨ (arrV _ _ _).slots.size ≤ _); rw [arrV_size]; exact hin) (by show (arrV _ _ _).slots[_]? = _; rw [arrV_read _ _ hlt]) rfl rfl hdg kk
theorem h_iret {v : Int32} {Qc : Array Value → State → Outcome → State → Prop} {XC : String → State → State → Prop} {mc ms : Nat} (S : CallFix p m c cc nL s args Ts own) (hr : meth.sig.returnType = some .int) (hlocks : meth.locks = false) (hL : gL Hb locs) (hQc : ∀ t : State, t.heap = H → Qc args s (.returned (some (.int v))) t) (hdg : decode cc pc = .ok (.ireturn, 1)) (hc : cells ≤ mc) (hs : slots ≤ ms) : W p l e R s m args below meth c H locs cells slots (vx_MQ below Qc XC args s mc ms (gA Hb)) (F0 m pc ls [.int v]) :=
  W.widen hc hs (vx_ret (W.iret S.1 S.2.1 hr (fun t ht0 _ => hQc t ht0) hL hdg hlocks))
/-- a call of the class from a helper: it comes back, or its throw is at hand -/
theorem h_call {y : MethodName} {ws ws' : List Cond} {rm : Room} {mc ms n index maxL : Nat} {bytes : ByteArray} {ret : Option FieldType} {thr : Option String} {rv : Option Value} {As : List Value} {k ci : Nat} {q : vw_C} {fs : List Value} {s1 s2 : Nat → Int32} {r1 r2 : Nat → Nat → Int32}
    (S : kX p m c cc nL s args Ts own D tys Hb K) (hG : gW D Hb lv ad ce H) (hL : gL Hb locs) (hk : lv k) (he : ce k = .inr (ci, fs)) (hc : vwCl[ci]? = some q)
    (hM : vx_Met l y ws rm (va_Pc (.ref (ad k) :: As) (kP D tys Hb K lv ad ce)) (cQ D Hb l0 ad thr rv ce0 eA cI cB cO cR s1 r1) (cX D Hb l0 ad thr ce0 eA cI cB cO cR s2 r2) mc ms (gA Hb)) (gd : GoodIn Ts (wsV own index q.1 y ws)) (hw : ws = Cond.code y bytes maxL ret :: ws') (hrm : rm.cells = mc ∧ rm.slots = ms)
    (hd : y.cls = q.1 ∧ y.cls ≠ "java/lang/invoke/MethodHandle" ∧ y.cls ≠ "java/lang/invoke/VarHandle" ∧ (parseMethodDescriptor y.desc).map (fun d => d.parameters.length) = some n) (hR : rm.frames + 1 ≤ R.frames ∧ 8 + (maxL + 11) + rm.locals ≤ R.locals)
    (hn : As.length = n) (hsize : ls.size = nL) (hst : st0 = As.reverse ++ .ref (ad k) :: rest) (hW : (rest.map fun v => v.category).sum ≤ 8) (hdg : decode cc pc = .ok (.invokevirtual index, 3)) (hf : cells + mc ≤ R.cells ∧ slots + ms ≤ R.slots)
    (kk : thr = none → ∀ (ad1 : Nat → Nat) (H1 : Heap) (locs1 : List Loc), (∀ j, lvA l0 j → ad1 j = ad j) → gW D Hb (lvC l0 s1) ad1 (kJ ce0 ad1 eA cI cB cO cR s1 r1) H1 → gL Hb locs1 → W p l e R s m args below meth c H1 locs1 (cells + mc) (slots + ms) Q (F0 m (pc + 3) ls (rv.toList ++ rest)))
    (kx : ∀ E, thr = some E → ∀ (H1 : Heap) (locs1 : List Loc) (q : Addr) (c9 : Cell), gW D Hb (lvC l0 s2) ad (kJ ce0 ad eA cI cB cO cR s2 r2) H1 → gL Hb locs1 → H1[q]? = some c9 → c9.vm = .none → s.vm.findClass E = some c9.cls → vx_W p l e R s m args below meth c H1 locs1 (cells + mc) (slots + ms) Q (F0 m pc ls rest) q) : W p l e R s m args below meth c H locs cells slots Q (F0 m pc ls st0) := by
  have hr := vx_runV (l := l) (e := e) (below := below) (meth := meth) (locs := locs) (cells := cells) (slots := slots) (H := H) (g := F0 m pc ls st0) (b := ad k) S.1 hM (cwV n S.1.2.2.2.2 gd hw hrm.1 hrm.2 hd hR) ⟨kP.blind, va_recv S.2.1 (hG.one hk he) hc (q0 := 0) rfl, fun U hU hW => ⟨rfl, by rw [hU]; exact hG, va_K.moved hW.alike S.2.1, kE.warm hW S.2.2⟩⟩ rfl hn hsize hst (by show 2 * 0 + _ ≤ 8; omega) hdg hf
  intro T hT X
  rcases hr T hT X with ⟨v, st₀, t, T', L, h0, X', hLL, e1, e2, ⟨hn, ad1, ha, hv, hg⟩, st⟩ | ⟨q, st₀, t, T', L, E, c9, h0, X', hLL, e1, e2, ⟨hE, hg⟩, hc, hcv, hcl, st⟩
  · cases hv
    obtain ⟨t2, a1, b1⟩ := kk hn ad1 T'.heap (locs ++ L) ha (by rw [e1]; exact hg) (hL.app hLL) T' rfl X'
    exact ⟨t2, st t2 a1, b1⟩
  · obtain ⟨t2, a1, b1⟩ := kx E hE T'.heap (locs ++ L) q c9 (by rw [e1]; exact hg) (hL.app hLL) (by rw [e1]; exact hc) hcv hcl T' rfl X'
    exact ⟨t2, st.trans a1, b1⟩
end HRW
