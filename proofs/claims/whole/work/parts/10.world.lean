/-! THE WORLD BY KEYS: a cell has a key k (a number that I choose), an address ad k, a content ce k; lv says which keys live. Hb is the heap at the law's entry: nothing of it changes. -/
def gA (Hb : Heap) : Nat → Prop := fun q => Hb.size ≤ q
def gW (D : va_G) (Hb : Heap) (lv : Nat → Prop) (ad : Nat → Nat) (ce : Nat → va_E) (H : Heap) : Prop :=
  (∀ k, lv k → va_at D vwCl (ad k, ce k) H) ∧ (∀ k j, lv k → lv j → ad k = ad j → k = j) ∧ (∀ k, lv k → Hb.size ≤ ad k) ∧ Hb.size ≤ H.size ∧ (∀ q : Nat, q < Hb.size → H[q]? = Hb[q]?)
def gL (Hb : Heap) (locs : List Loc) : Prop := ∀ q ∈ locs, Hb.size ≤ q.base
theorem gL.put {Hb : Heap} {locs : List Loc} {a n : Nat} (h : gL Hb locs) (ha : Hb.size ≤ a) : gL Hb (locs ++ [⟨a, n⟩]) := by
  intro q hq
  rcases List.mem_append.mp hq with h1 | h1
  · exact h q h1
  · rw [List.mem_singleton.mp h1]; exact ha
theorem gL.app {Hb : Heap} {locs L : List Loc} (h : gL Hb locs) (hL : ∀ q ∈ L, gA Hb q.base) : gL Hb (locs ++ L) := by
  intro q hq
  rcases List.mem_append.mp hq with h1 | h1
  · exact h q h1
  · exact hL q h1
theorem gL.nil {Hb : Heap} : gL Hb [] := fun _ h => nomatch h
theorem gW.one {D : va_G} {Hb : Heap} {lv : Nat → Prop} {ad : Nat → Nat} {ce : Nat → va_E} {H : Heap} (hG : gW D Hb lv ad ce H) {k : Nat} (hk : lv k) {e : va_E} (he : ce k = e) : va_P D vwCl [(ad k, e)] H := by
  intro j q hq
  have hz : j < 1 := (List.getElem?_eq_some_iff.mp hq).1
  rw [show j = 0 by omega] at hq
  cases hq
  rw [← he]
  exact hG.1 k hk
theorem gW.set {D : va_G} {Hb : Heap} {lv : Nat → Prop} {ad : Nat → Nat} {ce : Nat → va_E} {H H1 : Heap} (hG : gW D Hb lv ad ce H) {k : Nat} (hk : lv k) {e : va_E} (he : va_at D vwCl (ad k, e) H1) (hz : H1.size = H.size) (oq : ∀ q : Nat, q ≠ ad k → H1[q]? = H[q]?) : gW D Hb lv ad (va_up ce k e) H1 := by
  obtain ⟨h1, h2, h3, h4, h5⟩ := hG
  refine ⟨fun j hj => ?_, h2, h3, by rw [hz]; exact h4, fun q hq => ?_⟩
  · by_cases e1 : j = k
    · subst e1; rw [va_up_self]; exact he
    · rw [va_up_ne _ _ e1]; exact (h1 j hj).kept (oq _ (fun z => e1 (h2 j k hj hk z)))
  · rw [oq q (fun z => by have := h3 k hk; omega)]; exact h5 q hq
theorem gW.push {D : va_G} {Hb : Heap} {lv : Nat → Prop} {ad : Nat → Nat} {ce : Nat → va_E} {H H1 : Heap} (hG : gW D Hb lv ad ce H) {k : Nat} (hk : ¬ lv k) {e : va_E} (he : va_at D vwCl (H.size, e) H1) (hz : H1.size = H.size + 1) (oq : ∀ q : Nat, q < H.size → H1[q]? = H[q]?) : gW D Hb (fun j => lv j ∨ j = k) (va_up ad k H.size) (va_up ce k e) H1 := by
  obtain ⟨h1, h2, h3, h4, h5⟩ := hG
  have ne : ∀ j, lv j → j ≠ k := fun j hj z => hk (z ▸ hj)
  have lt : ∀ j, lv j → ad j < H.size := fun j hj => (h1 j hj).lt
  refine ⟨fun j hj => ?_, fun i j hi hj => ?_, fun j hj => ?_, by omega, fun q hq => ?_⟩
  · rcases hj with hj | rfl
    · rw [va_up_ne _ _ (ne j hj), va_up_ne _ _ (ne j hj)]; exact (h1 j hj).kept (oq _ (lt j hj))
    · rw [va_up_self, va_up_self]; exact he
  · rcases hi with hi | rfl <;> rcases hj with hj | rfl
    · rw [va_up_ne _ _ (ne i hi), va_up_ne _ _ (ne j hj)]; exact h2 i j hi hj
    · rw [va_up_ne _ _ (ne i hi), va_up_self]; intro z; have := lt i hi; omega
    · rw [va_up_ne _ _ (ne j hj), va_up_self]; intro z; have := lt j hj; omega
    · exact fun _ => rfl
  · rcases hj with hj | rfl
    · rw [va_up_ne _ _ (ne j hj)]; exact h3 j hj
    · rw [va_up_self]; exact h4
  · rw [oq q (by omega)]; exact h5 q hq
/-- a contract's start and its end -/
def gP (D : va_G) (tys : List (ClassId × FieldType)) (Hb : Heap) (lv : Nat → Prop) (ad : Nat → Nat) (ce : Nat → va_E) (U : State) : Prop := gW D Hb lv ad ce U.heap ∧ va_K D vwCl tys U
def gQ (D : va_G) (Hb : Heap) (lv : Nat → Prop) (ad : Nat → Nat) (rv : Option Value) (ce : Nat → va_E) : Array Value → State → Outcome → State → Prop := fun _ _ oc t => oc = .returned rv ∧ gW D Hb lv ad ce t.heap
/-- a method that reads no cell -/
def gQp (rv : Option Value) : Array Value → State → Outcome → State → Prop := fun _ st oc t => oc = .returned rv ∧ t.heap = st.heap
theorem gP.blind {D : va_G} {tys : List (ClassId × FieldType)} {Hb : Heap} {lv : Nat → Prop} {ad : Nat → Nat} {ce : Nat → va_E} {av : List Value} : FrameBlind (va_Pc av (gP D tys Hb lv ad ce)) := fun a U g mk q => by
  obtain ⟨q0, q1, q2⟩ := q
  exact ⟨q0, q1, va_K.moved (u := U) (U := U.calling g mk a) (Vm.Alike.refl U.vm) q2⟩
theorem gT.blind {av : List Value} : FrameBlind (va_Pc av (fun _ => True)) := fun _ _ _ _ q => ⟨q.1, trivial⟩
section GWR
variable {p : Program} {l : Launch} {e : Env} {R : Room} {s : State} {m : MethodId} {args : Array Value} {below : List Frame} {meth : Method} {c : Code} {H : Heap} {locs : List Loc} {cells slots : Nat} {Q : State → Prop}
variable {cc : ByteArray} {pc nL : Nat} {ls : Array Slot} {rest st0 : List Value} {D : va_G} {tys : List (ClassId × FieldType)} {Hb : Heap} {lv : Nat → Prop} {ad : Nat → Nat} {ce : Nat → va_E} {Ts : List Cond} {own : String}
theorem g_get (S : CallFix p m c cc nL s args Ts own) (hK : va_K D vwCl tys s) (hG : gW D Hb lv ad ce H) {ref C : String} {T : u_T} {N ci index : Nat} (hin : ∀ w ∈ u_ws C T N, w ∈ Ts) (k : Nat) (hk : lv k) {fs : List Value} (he : ce k = .inr (ci, fs)) (hc : vwCl[ci]? = some (C, T, N)) (f : Nat) (hf : f < N) (hlink : (Cond.fieldLink own index ref (T f).2.1 (T f).2.2.1).before args s = true) (hsame : ∀ x, s.fieldFound? (T f).1 (T f).2.1 (T f).2.2.1 = some x → s.fieldFound? ref (T f).2.1 (T f).2.2.1 = some x) {v : Value} (hv : fs[f]? = some v) (hdg : decode cc pc = .ok (.getfield index, 3))
    (kk : W p l e R s m args below meth c H locs cells slots Q (F0 m (pc + 3) ls (v :: rest))) : W p l e R s m args below meth c H locs cells slots Q (F0 m pc ls (.ref (ad k) :: rest)) :=
  va_get (D := D) (cl := vwCl) (ws := [(ad k, .inr (ci, fs))]) S.1 S.2.1 S.2.2.2.2 hin S.2.2.2.1 hK (hG.one hk he) 0 rfl hc f hf hlink hsame hv hdg kk
theorem g_put (S : CallFix p m c cc nL s args Ts own) (hK : va_K D vwCl tys s) (hG : gW D Hb lv ad ce H) (hL : gL Hb locs) {ref C : String} {T : u_T} {N ci index : Nat} (hin : ∀ w ∈ u_ws C T N, w ∈ Ts) (ty0 : Nat → FieldType) (hty : ∀ k, k < N → parseFieldDescriptor (T k).2.2.1 = some (ty0 k)) (hnm : ∀ a, a < N → ∀ b, b < N → a ≠ b → (T a).2.1 ≠ (T b).2.1) (k : Nat) (hk : lv k) {fs : List Value} (he : ce k = .inr (ci, fs)) (hc : vwCl[ci]? = some (C, T, N)) (f : Nat) (hf : f < N) (hlink : (Cond.fieldLink own index ref (T f).2.1 (T f).2.2.1).before args s = true) (hsame : ∀ x, s.fieldFound? (T f).1 (T f).2.1 (T f).2.2.1 = some x → s.fieldFound? ref (T f).2.1 (T f).2.2.1 = some x) (hfin : (T f).2.2.2 = false) {ty : FieldType} {v : Value} (hd : parseFieldDescriptor (T f).2.2.1 = some ty) (hn : narrow ty v = v) (hfit : fits ty v = true) (hl : f < fs.length) (hdg : decode cc pc = .ok (.putfield index, 3))
    (kk : ∀ (H1 : Heap) (locs1 : List Loc), gW D Hb lv ad (va_up ce k (.inr (ci, fs.set f v))) H1 → gL Hb locs1 → W p l e R s m args below meth c H1 locs1 cells slots Q (F0 m (pc + 3) ls rest)) : W p l e R s m args below meth c H locs cells slots Q (F0 m pc ls (v :: .ref (ad k) :: rest)) := by
  obtain ⟨hexec, hb, hml, hown, hts⟩ := S
  have hap := va_apart (own := own) hts hin ty0 hty hnm hK hc
  obtain ⟨r, h1, cell, q1, q2, q3, q4⟩ := (hG.one hk he) 0 _ rfl
  have hr : r = (C, T, N) := Option.some.inj (h1.symm.trans hc)
  subst hr
  obtain ⟨hS, hfc, kC, hkC, hkind⟩ := hK.1 ci _ hc
  obtain ⟨cf, kf, fi, fd, hi, hsl⟩ := hS f hf
  have hlay := hts _ (hin _ (u_in_lay hf))
  unfold u_lay at hlay
  rw [if_neg (by rw [hfin]; decide)] at hlay
  have hst := (u_facts hfc hkC (u_lays hts hin hf) hi).1
  have h6 := u_store hfc hkC hkind hlay hi hd hn hfit
  refine W.putK hexec hb (f := fd) ⟨hown, hlink, ⟨_, _, _, hsame _ hi⟩, hst⟩ (by rw [q2]; exact h6) q1 q3 (by rw [hsl]; exact k2_hasslot (q4 f hf)) rfl rfl hdg fun H' e1 e2 e3 => ?_
  rw [hsl] at e1 ⊢
  exact kk H' _ (hG.set hk ⟨_, hc, t_OB.to (V := updV (vp_V fs) f v) ⟨_, e1, q2, q3, t_set q4 hap hf v⟩ (fun j _ => vp_updV_set hl v j)⟩ e2 e3) (hL.put (hG.2.2.1 k hk))
theorem g_iald (S : CallFix p m c cc nL s args Ts own) (hK : va_K D vwCl tys s) (hG : gW D Hb lv ad ce H) (k : Nat) (hk : lv k) (t0 : Nat) {cA : ClassId} {n : Nat} {f : Nat → Int32} (ha : ce k = .inl (cA, n, .inl f)) (ht : tys[t0]? = some (cA, .int)) {i : Int32} (hin : vp_in i n) (hdg : decode cc pc = .ok (.iaload, 1))
    (kk : W p l e R s m args below meth c H locs cells slots Q (F0 m (pc + 1) ls (.int (f i.toNatClampNeg) :: rest))) : W p l e R s m args below meth c H locs cells slots Q (F0 m pc ls (.int i :: .ref (ad k) :: rest)) :=
  va_iald S.1 S.2.1 hK (hG.one hk ha) 0 t0 rfl ht hin hdg kk
theorem g_bald (S : CallFix p m c cc nL s args Ts own) (hK : va_K D vwCl tys s) (hG : gW D Hb lv ad ce H) (k : Nat) (hk : lv k) (t0 : Nat) {cA : ClassId} {n : Nat} {f : Nat → Int32} (ha : ce k = .inl (cA, n, .inl f)) (ht : tys[t0]? = some (cA, .byte)) {i : Int32} (hin : vp_in i n) (hdg : decode cc pc = .ok (.baload, 1))
    (kk : W p l e R s m args below meth c H locs cells slots Q (F0 m (pc + 1) ls (.int (f i.toNatClampNeg) :: rest))) : W p l e R s m args below meth c H locs cells slots Q (F0 m pc ls (.int i :: .ref (ad k) :: rest)) :=
  va_bald S.1 S.2.1 hK (hG.one hk ha) 0 t0 rfl ht hin hdg kk
theorem g_zald (S : CallFix p m c cc nL s args Ts own) (hK : va_K D vwCl tys s) (hG : gW D Hb lv ad ce H) (k : Nat) (hk : lv k) (t0 : Nat) {cA : ClassId} {n : Nat} {f : Nat → Int32} (ha : ce k = .inl (cA, n, .inl f)) (ht : tys[t0]? = some (cA, .boolean)) {i : Int32} (hin : vp_in i n) (hdg : decode cc pc = .ok (.baload, 1))
    (kk : W p l e R s m args below meth c H locs cells slots Q (F0 m (pc + 1) ls (.int (f i.toNatClampNeg) :: rest))) : W p l e R s m args below meth c H locs cells slots Q (F0 m pc ls (.int i :: .ref (ad k) :: rest)) :=
  va_zald S.1 S.2.1 hK (hG.one hk ha) 0 t0 rfl ht hin hdg kk
theorem g_alen (S : CallFix p m c cc nL s args Ts own) (hK : va_K D vwCl tys s) (hG : gW D Hb lv ad ce H) (k : Nat) (hk : lv k) (t0 : Nat) {cA : ClassId} {x : vp_A} (ha : ce k = .inl (cA, x)) {ty : FieldType} (ht : tys[t0]? = some (cA, ty)) {v : Int32} (hv : Int32.ofNat x.1 = v) (hdg : decode cc pc = .ok (.arraylength, 1))
    (kk : W p l e R s m args below meth c H locs cells slots Q (F0 m (pc + 1) ls (.int v :: rest))) : W p l e R s m args below meth c H locs cells slots Q (F0 m pc ls (.ref (ad k) :: rest)) :=
  va_alen S.1 S.2.1 hK (hG.one hk ha) 0 t0 rfl ht hv hdg kk
theorem g_aald (S : CallFix p m c cc nL s args Ts own) (hK : va_K D vwCl tys s) (hG : gW D Hb lv ad ce H) (k : Nat) (hk : lv k) (t0 : Nat) {cA : ClassId} {C : String} {n : Nat} {f : Nat → Option Nat} (ha : ce k = .inl (cA, n, .inr (.inr (.inr (.inr f))))) (ht : tys[t0]? = some (cA, .object C)) {i : Int32} (hin : vp_in i n) (hdg : decode cc pc = .ok (.aaload, 1))
    (kk : W p l e R s m args below meth c H locs cells slots Q (F0 m (pc + 1) ls (va_rf (f i.toNatClampNeg) :: rest))) : W p l e R s m args below meth c H locs cells slots Q (F0 m pc ls (.int i :: .ref (ad k) :: rest)) :=
  va_aldq S.1 S.2.1 hK (hG.one hk ha) 0 t0 rfl ht hin hdg kk
theorem g_iast (S : CallFix p m c cc nL s args Ts own) (hK : va_K D vwCl tys s) (hG : gW D Hb lv ad ce H) (hL : gL Hb locs) (k : Nat) (hk : lv k) (t0 : Nat) {cA : ClassId} {n : Nat} {f : Nat → Int32} (ha : ce k = .inl (cA, n, .inl f)) (ht : tys[t0]? = some (cA, .int)) {i x : Int32} (hin : vp_in i n) (hdg : decode cc pc = .ok (.iastore, 1))
    (kk : ∀ (H1 : Heap) (locs1 : List Loc), gW D Hb lv ad (va_up ce k (.inl (cA, n, .inl (upd f i.toNatClampNeg x)))) H1 → gL Hb locs1 → W p l e R s m args below meth c H1 locs1 cells slots Q (F0 m (pc + 1) ls rest)) : W p l e R s m args below meth c H locs cells slots Q (F0 m pc ls (.int x :: .int i :: .ref (ad k) :: rest)) := by
  refine W.iast S.1 S.2.1 ((hG.one hk ha) 0 _ rfl) ((hK.2 t0 _ ht).1 n (fun j => .int (f j))) (fun q => by cases q) (by show ¬ (i < 0 ∨ (arrV _ _ _).slots.size ≤ _); rw [arrV_size]; exact hin) rfl rfl hdg fun H1 e z oq => ?_
  refine kk H1 _ (hG.set hk ?_ z oq) (hL.put (hG.2.2.1 k hk))
  show H1[ad k]? = some (vp_cell _ _)
  rw [e, vp_cell_i, vp_cell_i, arrV_store]
  congr 2
  funext q
  by_cases hq : q = i.toNatClampNeg
  · subst hq
    simp [updV, upd]
  · simp [updV, upd, hq]
theorem g_bast (S : CallFix p m c cc nL s args Ts own) (hK : va_K D vwCl tys s) (hG : gW D Hb lv ad ce H) (hL : gL Hb locs) (k : Nat) (hk : lv k) (t0 : Nat) {cA : ClassId} {n : Nat} {f : Nat → Int32} (ha : ce k = .inl (cA, n, .inl f)) (ht : tys[t0]? = some (cA, .byte)) {i x : Int32} (hin : vp_in i n) (hdg : decode cc pc = .ok (.bastore, 1))
    (kk : ∀ (H1 : Heap) (locs1 : List Loc), gW D Hb lv ad (va_up ce k (.inl (cA, n, .inl (upd f i.toNatClampNeg (vp_nar .byte x))))) H1 → gL Hb locs1 → W p l e R s m args below meth c H1 locs1 cells slots Q (F0 m (pc + 1) ls rest)) : W p l e R s m args below meth c H locs cells slots Q (F0 m pc ls (.int x :: .int i :: .ref (ad k) :: rest)) := by
  refine W.bast S.1 S.2.1 ((hG.one hk ha) 0 _ rfl) ((hK.2 t0 _ ht).1 n (fun j => .int (f j))) (fun q => by cases q) (by show ¬ (i < 0 ∨ (arrV _ _ _).slots.size ≤ _); rw [arrV_size]; exact hin) rfl rfl hdg fun H1 e z oq => ?_
  refine kk H1 _ (hG.set hk ?_ z oq) (hL.put (hG.2.2.1 k hk))
  show H1[ad k]? = some (vp_cell _ _)
  rw [e, vp_cell_i, vp_cell_i, arrV_store]
  congr 2
  funext q
  by_cases hq : q = i.toNatClampNeg
  · subst hq
    simp [updV, upd, vp_nar]
    try rfl
  · simp [updV, upd, hq]
theorem g_zast (S : CallFix p m c cc nL s args Ts own) (hK : va_K D vwCl tys s) (hG : gW D Hb lv ad ce H) (hL : gL Hb locs) (k : Nat) (hk : lv k) (t0 : Nat) {cA : ClassId} {n : Nat} {f : Nat → Int32} (ha : ce k = .inl (cA, n, .inl f)) (ht : tys[t0]? = some (cA, .boolean)) {i x : Int32} (hin : vp_in i n) (hdg : decode cc pc = .ok (.bastore, 1))
    (kk : ∀ (H1 : Heap) (locs1 : List Loc), gW D Hb lv ad (va_up ce k (.inl (cA, n, .inl (upd f i.toNatClampNeg (vp_nar .boolean x))))) H1 → gL Hb locs1 → W p l e R s m args below meth c H1 locs1 cells slots Q (F0 m (pc + 1) ls rest)) : W p l e R s m args below meth c H locs cells slots Q (F0 m pc ls (.int x :: .int i :: .ref (ad k) :: rest)) := by
  refine W.zast S.1 S.2.1 ((hG.one hk ha) 0 _ rfl) ((hK.2 t0 _ ht).1 n (fun j => .int (f j))) (fun q => by cases q) (by show ¬ (i < 0 ∨ (arrV _ _ _).slots.size ≤ _); rw [arrV_size]; exact hin) rfl rfl hdg fun H1 e z oq => ?_
  refine kk H1 _ (hG.set hk ?_ z oq) (hL.put (hG.2.2.1 k hk))
  show H1[ad k]? = some (vp_cell _ _)
  rw [e, vp_cell_i, vp_cell_i, arrV_store]
  congr 2
  funext q
  by_cases hq : q = i.toNatClampNeg
  · subst hq
    simp [updV, upd, vp_nar]
    try rfl
  · simp [updV, upd, hq]
/-- behind a call of a method of the world -/
theorem g_back {mc ms : Nat} {rv : Option Value} {ce' : Nat → va_E} {a : Array Value} (hr : va_Run p l e R s m args below meth c H locs cells slots mc ms (F0 m pc ls st0) rest (gQ D Hb lv ad rv ce' a) (gA Hb)) (hL : gL Hb locs)
    (kk : ∀ (H1 : Heap) (locs1 : List Loc), gW D Hb lv ad ce' H1 → gL Hb locs1 → W p l e R s m args below meth c H1 locs1 (cells + mc) (slots + ms) Q (F0 m (pc + 3) ls (rv.toList ++ rest))) : W p l e R s m args below meth c H locs cells slots Q (F0 m pc ls st0) := by
  intro T hT X
  obtain ⟨v, st₀, t, T', L, h0, X', hLL, e1, e2, ⟨hv, hg⟩, st⟩ := hr T hT X
  cases hv
  obtain ⟨t2, a1, b1⟩ := kk T'.heap (locs ++ L) (by rw [e1]; exact hg) (hL.app hLL) T' rfl X'
  exact ⟨t2, st t2 a1, b1⟩
/-- behind a call of a method that reads no cell -/
theorem g_backP {rv : Option Value} {a : Array Value} (hr : va_Run p l e R s m args below meth c H locs cells slots 0 0 (F0 m pc ls st0) rest (gQp rv a) (fun _ => False))
    (kk : W p l e R s m args below meth c H locs cells slots Q (F0 m (pc + 3) ls (rv.toList ++ rest))) : W p l e R s m args below meth c H locs cells slots Q (F0 m pc ls st0) := by
  intro T hT X
  obtain ⟨v, st₀, t, T', L, h0, X', hLL, e1, e2, ⟨hv, hg⟩, st⟩ := hr T hT X
  cases hv
  have hn : L = [] := by
    cases L with
    | nil => rfl
    | cons x L => exact absurd (hLL x List.mem_cons_self) (fun h => h)
  subst hn
  rw [List.append_nil] at X'
  obtain ⟨t2, a1, b1⟩ := kk T' (by rw [e1, hg, h0]) X'
  exact ⟨t2, st t2 a1, b1⟩
/-- a call on an object of the world -/
theorem g_callV {y : MethodName} {ws : List Cond} {rm : Room} {mc ms n index maxL : Nat} {bytes : ByteArray} {ret : Option FieldType} {rv : Option Value} {ce' : Nat → va_E} {As : List Value} {k ci : Nat} {q : vw_C} {fs : List Value}
    (S : CallFix p m c cc nL s args Ts own) (hK : va_K D vwCl tys s) (hG : gW D Hb lv ad ce H) (hL : gL Hb locs) (hk : lv k) (he : ce k = .inr (ci, fs)) (hc : vwCl[ci]? = some q)
    (hM : Met l y ws rm (va_Pc (.ref (ad k) :: As) (gP D tys Hb lv ad ce)) (gQ D Hb lv ad rv ce') mc ms (gA Hb)) (cw : CallW R s args own q.1 index y bytes maxL ret ws rm mc ms n)
    (hn : As.length = n) (hsize : ls.size = nL) (hst : st0 = As.reverse ++ .ref (ad k) :: rest) (hW : (rest.map fun v => v.category).sum ≤ 8) (hdg : decode cc pc = .ok (.invokevirtual index, 3)) (hf : cells + mc ≤ R.cells ∧ slots + ms ≤ R.slots)
    (kk : ∀ (H1 : Heap) (locs1 : List Loc), gW D Hb lv ad ce' H1 → gL Hb locs1 → W p l e R s m args below meth c H1 locs1 (cells + mc) (slots + ms) Q (F0 m (pc + 3) ls (rv.toList ++ rest))) : W p l e R s m args below meth c H locs cells slots Q (F0 m pc ls st0) :=
  g_back (va_runV (b := ad k) S hM cw ⟨gP.blind, va_recv hK (hG.one hk he) hc (q0 := 0) rfl, fun U hU hW => ⟨rfl, by rw [hU]; exact hG, va_K.moved hW.alike hK⟩⟩ rfl hn hsize hst (by show 2 * 0 + _ ≤ 8; omega) hdg hf) hL kk
/-- a static call of a method of the world -/
theorem g_callS {y : MethodName} {ws : List Cond} {rm : Room} {mc ms n index maxL : Nat} {bytes : ByteArray} {ret : Option FieldType} {rv : Option Value} {ce' : Nat → va_E} {As : List Value}
    (S : CallFix p m c cc nL s args Ts own) (hK : va_K D vwCl tys s) (hG : gW D Hb lv ad ce H) (hL : gL Hb locs)
    (hM : Met l y ws rm (va_Pc As (gP D tys Hb lv ad ce)) (gQ D Hb lv ad rv ce') mc ms (gA Hb)) (cw : CallB R s args own index y bytes maxL ret ws rm mc ms n ∧ (Cond.static y).before args s = true)
    (hn : As.length = n) (hsize : ls.size = nL) (hst : st0 = As.reverse ++ rest) (hW : (rest.map fun v => v.category).sum ≤ 8) (hdg : decode cc pc = .ok (.invokestatic index, 3)) (hf : cells + mc ≤ R.cells ∧ slots + ms ≤ R.slots)
    (kk : ∀ (H1 : Heap) (locs1 : List Loc), gW D Hb lv ad ce' H1 → gL Hb locs1 → W p l e R s m args below meth c H1 locs1 (cells + mc) (slots + ms) Q (F0 m (pc + 3) ls (rv.toList ++ rest))) : W p l e R s m args below meth c H locs cells slots Q (F0 m pc ls st0) :=
  g_back (va_runS S hM cw ⟨gP.blind, fun U hU hW => ⟨rfl, by rw [hU]; exact hG, va_K.moved hW.alike hK⟩⟩ rfl hn hsize hst (by show 2 * 0 + _ ≤ 8; omega) hdg hf) hL kk
/-- a static call of a method that reads no cell -/
theorem g_callP {y : MethodName} {ws : List Cond} {rm : Room} {n index maxL : Nat} {bytes : ByteArray} {ret : Option FieldType} {rv : Option Value} {As : List Value}
    (S : CallFix p m c cc nL s args Ts own) (hM : Met l y ws rm (va_Pc As (fun _ => True)) (gQp rv) 0 0 (fun _ => False)) (cw : CallB R s args own index y bytes maxL ret ws rm 0 0 n ∧ (Cond.static y).before args s = true)
    (hn : As.length = n) (hsize : ls.size = nL) (hst : st0 = As.reverse ++ rest) (hW : (rest.map fun v => v.category).sum ≤ 8) (hdg : decode cc pc = .ok (.invokestatic index, 3)) (hf : cells ≤ R.cells ∧ slots ≤ R.slots)
    (kk : W p l e R s m args below meth c H locs cells slots Q (F0 m (pc + 3) ls (rv.toList ++ rest))) : W p l e R s m args below meth c H locs cells slots Q (F0 m pc ls st0) :=
  g_backP (va_runS S hM cw ⟨gT.blind, fun U hU hW => ⟨rfl, trivial⟩⟩ rfl hn hsize hst (by show 2 * 0 + _ ≤ 8; omega) hdg hf) kk
theorem g_iret {v : Int32} {rv : Option Value} {ce' : Nat → va_E} (S : CallFix p m c cc nL s args Ts own) (hr : meth.sig.returnType = some .int) (hlocks : meth.locks = false) (hG : gW D Hb lv ad ce H) (hL : gL Hb locs) (e1 : rv = some (.int v)) (e2 : ce = ce') (hdg : decode cc pc = .ok (.ireturn, 1)) : W p l e R s m args below meth c H locs cells slots (MQ below (gQ D Hb lv ad rv ce') args s cells slots (gA Hb)) (F0 m pc ls [.int v]) :=
  W.iret S.1 S.2.1 hr (fun t ht _ => ⟨by rw [e1], by rw [ht, ← e2]; exact hG⟩) hL hdg hlocks
theorem g_zret {v : Int32} {rv : Option Value} {ce' : Nat → va_E} (S : CallFix p m c cc nL s args Ts own) (hr : meth.sig.returnType = some .boolean) (hlocks : meth.locks = false) (hn : narrow .boolean (.int v) = .int v) (hG : gW D Hb lv ad ce H) (hL : gL Hb locs) (e1 : rv = some (.int v)) (e2 : ce = ce') (hdg : decode cc pc = .ok (.ireturn, 1)) : W p l e R s m args below meth c H locs cells slots (MQ below (gQ D Hb lv ad rv ce') args s cells slots (gA Hb)) (F0 m pc ls [.int v]) :=
  W.zret S.1 S.2.1 hr hn (fun t ht _ => ⟨by rw [e1], by rw [ht, ← e2]; exact hG⟩) hL hdg hlocks
theorem g_vret {rv : Option Value} {ce' : Nat → va_E} (S : CallFix p m c cc nL s args Ts own) (hr : meth.sig.returnType = none) (hlocks : meth.locks = false) (hG : gW D Hb lv ad ce H) (hL : gL Hb locs) (e1 : rv = none) (e2 : ce = ce') (hdg : decode cc pc = .ok (.return_, 1)) : W p l e R s m args below meth c H locs cells slots (MQ below (gQ D Hb lv ad rv ce') args s cells slots (gA Hb)) (F0 m pc ls []) :=
  W.vret S.1 S.2.1 hr (fun t ht _ => ⟨by rw [e1], by rw [ht, ← e2]; exact hG⟩) hL hdg hlocks
theorem p_iret {v : Int32} {rv : Option Value} (S : CallFix p m c cc nL s args Ts own) (hr : meth.sig.returnType = some .int) (hlocks : meth.locks = false) (e1 : rv = some (.int v)) (hdg : decode cc pc = .ok (.ireturn, 1)) : W p l e R s m args below meth c s.heap [] cells slots (MQ below (gQp rv) args s cells slots (fun _ => False)) (F0 m pc ls [.int v]) :=
  W.iret S.1 S.2.1 hr (fun t ht _ => ⟨by rw [e1], ht⟩) (fun _ h => nomatch h) hdg hlocks
theorem p_zret {v : Int32} {rv : Option Value} (S : CallFix p m c cc nL s args Ts own) (hr : meth.sig.returnType = some .boolean) (hlocks : meth.locks = false) (hn : narrow .boolean (.int v) = .int v) (e1 : rv = some (.int v)) (hdg : decode cc pc = .ok (.ireturn, 1)) : W p l e R s m args below meth c s.heap [] cells slots (MQ below (gQp rv) args s cells slots (fun _ => False)) (F0 m pc ls [.int v]) :=
  W.zret S.1 S.2.1 hr hn (fun t ht _ => ⟨by rw [e1], ht⟩) (fun _ h => nomatch h) hdg hlocks
end GWR
