/-! NoSuchElementException: its constructor's own link is another place than the others' -/
abbrev cNse : ByteArray := prog_35_method_4_code
theorem cNse_0 : decode cNse 0 = .ok (.aload_n 0, 1) := by decide +kernel
theorem cNse_1 : decode cNse 1 = .ok (.aload_n 1, 1) := by decide +kernel
theorem cNse_2 : decode cNse 2 = .ok (.invokespecial 13, 3) := by decide +kernel
theorem cNse_5 : decode cNse 5 = .ok (.return_, 1) := by decide +kernel
def vy_at (own : String) (ic : Nat) (X : String) (names : List String) : List Cond := (Bundle.ownAtomsX own ic X 13 cNse names).filter vx_no
section VYC
variable {p : Program} {l : Launch} {e : Env} {R : Room} {s : State} {m : MethodId} {args : Array Value} {below : List Frame} {meth : Method} {c : Code} {W0 : State} {locs : List Loc} {cells slots : Nat}
set_option maxHeartbeats 2000000 in
/-- after Stand.ctorThrowS of the library, over Bundle.chainSX: what is thrown, without what its cell holds -/
theorem vy_ctor (X : Stand p l e R s m args below meth c W0 locs cells slots) (hexec : p.tables.exec = Jvm.exec) (htr : e.platform.stackTraces = false) {own cls : String} {names : List String} {ic ix : Nat} {rx : ByteArray}
    (x0 : decode rx 0 = .ok (.aload_n 0, 1)) (x1 : decode rx 1 = .ok (.aload_n 1, 1)) (x2 : decode rx 2 = .ok (.invokespecial ix, 3)) (x5 : decode rx 5 = .ok (.return_, 1))
    (hown : s.vm.findClass own = some m.cls) (hcls : Bundle.fit cls = true) (hnames : ∀ n ∈ names, Bundle.fit n = true) (h : ∀ w ∈ Bundle.ownAtomsX own ic cls ix rx names, w.before args s = true)
    (hlocs : ∀ x ∈ locs, ∀ cell, s.heap[x.base]? = some cell → cell.vm.isStatics = false)
    {a : Addr} {cX : ClassId} {kX : Class} (hfoundX : s.vm.findClass cls = some cX) (hkX : s.vm.classes[cX]? = some kX) (hcell : W0.heap[a]? = some (freshCell cX kX)) (hnew : s.heap.size ≤ a)
    {msg : Value} (hmsg : msg.isRef = true) {g : JFrame} (hg : g.method = m) (hsize : g.locals.size = c.maxLocals) (hlocked : g.locked = none) (hentered : g.entered = []) {rest : List Value} (hstack : g.stack = msg :: .ref a :: .ref a :: rest)
    (hd6 : decode c.code g.pc = .ok (.invokespecial ic, 3)) (hd9 : decode c.code (g.pc + 3) = .ok (.athrow, 1)) (hout : ∀ x ∈ c.exceptionTable.toList, covers x (g.pc + 3) = false)
    (hRframes : names.length + 3 < R.frames) (hRlocals : 2 * g.monitorRoom + ((Value.ref a :: rest).map fun v => v.category).sum + (13 * (names.length + 1) + 42) ≤ R.locals) (hlocks : meth.locks = false) :
    ∃ U : State, Steps p.tables e below (W0.setTop g) U ∧ U.status = .running ∧ Ended U below (.threw a) ∧ s.WarmedH U.vm ∧ s.sameButNew ({ U with vm := s.vm } : State) locs cells slots ∧
      ∃ ce, U.heap[a]? = some ce ∧ ce.vm = .none ∧ s.vm.findClass cls = some ce.cls := by
  have hpl : e.platform.magicAccessors = ({} : Platform).magicAccessors := by rw [X.admits.platform]
  obtain ⟨T, Z0, L, -, Y⟩ := ThrowableC.of_atoms (args := args) (by rw [X.admits.platform]) (by rw [X.admits.platform]) hpl (fun x hx => h x (by simp [Bundle.ownAtomsX, hx]))
  obtain ⟨Z, M, LZ, LM, hnZ⟩ := Init0T.ofS_atoms (args := args) hpl L Y (fun x hx => h x (by simp [Bundle.ownAtomsX, hx]))
  obtain ⟨P1, Ps, hlen, L1, hL, hP1m, hlink1, hlink⟩ := Bundle.chainSX (args := args) hpl hnZ x0 x1 x2 x5 names cls hcls hnames (fun x hx => h x (by simp [Bundle.ownAtomsX, hx]))
  have hfound : s.vm.findClass cls = some P1.m.cls := findClass_of_methodNamed hP1m
  cases Option.some.inj (hfoundX.symm.trans hfound)
  obtain ⟨c1, kX', hc1, hk, hord, -, -, hn6⟩ := Cond.instantiable_spec (h (.instantiable cls 6) (by simp [Bundle.ownAtomsX]))
  cases Option.some.inj (hc1.symm.trans hfound)
  cases Option.some.inj (hkX.symm.trans hk)
  have hsel : ∀ (t : MethodName) (mt : MethodId), Cond.selects cls t t ∈ Bundle.ownAtomsX own ic cls ix rx names → s.methodNamed? t = some mt → t.cls ≠ "java/lang/invoke/MethodHandle" ∧ t.cls ≠ "java/lang/invoke/VarHandle" → selectMethod e.platform s.vm P1.m.cls mt = .method mt := by
    intro t mt hin hn hpn
    obtain ⟨c2, r2, m2, q1, q2, q3, q4, -⟩ := Cond.selects_spec (h _ hin)
    cases Option.some.inj (q1.symm.trans hfound)
    cases Option.some.inj (q2.symm.trans (State.methodFound?_of_named hn hpn))
    cases Option.some.inj (q3.symm.trans hn)
    rw [Launch.admits_selectMethod X.admits]; exact q4
  have hsel0 := hsel Bundle.tFill0 T.fill0 (by simp [Bundle.ownAtomsX]) Y.fill0 (by decide)
  have hselF := hsel Bundle.tFill T.fill (by simp [Bundle.ownAtomsX]) Y.fill (by decide)
  obtain ⟨cellS0, hcS0, hiss⟩ := Y.statics
  obtain ⟨u0, hu0⟩ := Cond.staticRefV Y.unassigned L.unassignedStatic L.statics hcS0 hiss (h (.isRef (.static Bundle.tN "UNASSIGNED_STACK" Bundle.steD)) (by simp [Bundle.ownAtomsX]))
  obtain ⟨sen, hsen⟩ := Cond.staticRefV Y.sentinel L.sentinelStatic L.statics hcS0 hiss (h (.isRef (.static Bundle.tN "SUPPRESSED_SENTINEL" Bundle.listD)) (by simp [Bundle.ownAtomsX]))
  obtain ⟨ci198, i198, fB, hk198, hg198, ha198, hsB, -, hnB, htB, hffB⟩ := Cond.ownField (t := .object "java/lang/Object") Y.found L.cls (by decide +kernel) (h (.fieldLink Bundle.tN 198 Bundle.tN "backtrace" "Ljava/lang/Object;") (by simp [Bundle.ownAtomsX])) (h (.lays Bundle.tN Bundle.tN "backtrace" "Ljava/lang/Object;") (by simp [Bundle.ownAtomsX])) e.platform hpl
  obtain ⟨cellS, hcS', heS, -, hkeep⟩ := X.same.2.2.2.2.2 T.aS cellS0 hcS0
  have hcellS : W0.heap[T.aS]? = some cellS := hcS'
  have hout' : ∀ i, (⟨T.aS, i⟩ : Loc) ∉ locs := fun i hmem => by
    have := hlocs _ hmem cellS0 hcS0
    rw [hiss] at this; cases this
  have hknownS : cellS.vm ≠ .unknown := by
    rw [heS]; intro hu
    rw [show cellS0.vm = .unknown from hu] at hiss
    cases hiss
  have hneS : T.aS ≠ a := Nat.ne_of_lt (Nat.lt_of_lt_of_le (Array.getElem?_eq_some_iff.mp hcS0).1 hnew)
  obtain ⟨iM, hffM⟩ := Y.msg
  obtain ⟨tyC, dC, hdC, hdnC⟩ := Cond.laysAt hfound hk Y.cause (h (.lays cls Bundle.tN "cause" "Ljava/lang/Throwable;") (by simp [Bundle.ownAtomsX]))
  obtain ⟨tyS, dS, hdS, hdnS⟩ := Cond.laysAt hfound hk Y.stack (h (.lays cls Bundle.tN "stackTrace" Bundle.steD) (by simp [Bundle.ownAtomsX]))
  obtain ⟨tyP, dP, hdP, hdnP⟩ := Cond.laysAt hfound hk Y.supp (h (.lays cls Bundle.tN "suppressedExceptions" Bundle.listD) (by simp [Bundle.ownAtomsX]))
  obtain ⟨tyM, dM, hdM, hdnM⟩ := Cond.laysAt hfound hk hffM (h (.lays cls Bundle.tN "detailMessage" "Ljava/lang/String;") (by simp [Bundle.ownAtomsX]))
  obtain ⟨tyB, dB, hdB, hdnB⟩ := Cond.laysAt hfound hk hffB (h (.lays cls Bundle.tN "backtrace" "Ljava/lang/Object;") (by simp [Bundle.ownAtomsX]))
  have bC := Cond.laysApart hdB hdC hdnB hdnC (by rw [hnB, Y.causeName]; decide)
  have bS := Cond.laysApart hdB hdS hdnB hdnS (by rw [hnB, Y.stackName]; decide)
  have bP := Cond.laysApart hdB hdP hdnB hdnP (by rw [hnB, Y.suppName]; decide)
  have hskip : SkipFacts T e.platform s (fun u => u) u0 ((preparedCellV T.toThrowableT (freshCell P1.m.cls kX) a u0 sen).withEntry W0.cur) :=
    ⟨{ ci198 := ci198, i198 := i198, fBack := fB }, ⟨hk198, hg198, ha198, hsB⟩, by
      have := fresh_default (c := P1.m.cls) tyB
      rw [htB] at this
      simpa [preparedCellV, Cell.setSlot, Cell.withEntry, Array.getElem?_setIfInBounds, bC, bS, bP, bC.symm, bS.symm, bP.symm, defaultValue] using this, fun _ _ => rfl⟩
  obtain ⟨tm, methC, cdC, kC, vm₁, hnC, -, -, -, -, -, -, -, hW₁, st1⟩ := Steps.initColdS (tb := p.tables) (e := e) (below := below) (s := s) (U := W0) X.here hexec X.warmed hpl hown (t := Bundle.initS cls) rfl rfl (Bundle.fit_spec hcls).2
    (h (.methodLink own ic (Bundle.initS cls)) (by simp [Bundle.ownAtomsX])) (h (.instanceMethod (Bundle.initS cls)) (by cases names <;> simp [Bundle.ownAtomsX, Bundle.chainSAtomsX, Bundle.passSAtoms])) (bytes := rx) (maxL := 2) (h (.code (Bundle.initS cls) rx 2 none) (by cases names <;> simp [Bundle.ownAtomsX, Bundle.chainSAtomsX, Bundle.passSAtoms]))
    (f := g) hg (a := a) (msg := msg) (rest := .ref a :: rest) hstack hd6
  cases Option.some.inj (hnC.symm.trans hP1m)
  have X₁ := X.noted hW₁
  obtain ⟨vm₂, X₂, st2⟩ := X₁.ctorMessageOffV hexec (g := { g with stack := .ref a :: rest }) hg hsize T L Z LZ M LM (P1 :: Ps)
    (fun P hP => by rcases List.mem_cons.mp hP with rfl | hP; exact L1; exact hL P hP) ⟨hlink1, hlink⟩ (u0 := u0) (sen := sen) (self := a) hmsg (cell := freshCell P1.m.cls kX) (cellS := cellS)
    hcell (fun _ => by simp) (by simp) rfl rfl hsel0 hselF hcellS hneS hknownS (by rw [hkeep _ (hout' _)]; exact hu0) (by rw [hkeep _ (hout' _)]; exact hsen)
    (Takes.of_laid hk hord tyC (by rw [Y.causeType]; rfl)) (Takes.of_laid hk hord tyS (by rw [Y.stackType]; exact fits_refV_array _ u0)) (Takes.of_laid hk hord tyP (by rw [Y.suppType]; exact fits_refV_object _ sen))
    (Takes.of_laid hk hord tyM (by rw [Y.msgType]; exact fits_refV_object _ ⟨msg, hmsg⟩)) Y.objLocals hskip htr [] hd6
    (by simp only [List.length_cons, hlen]; omega) (by simp only [List.length_cons, hlen]; exact hRlocals)
  obtain ⟨hwalk, hrun, hended, hWU, hsame⟩ := X₂.athrowLeaves hexec (g := { g with stack := .ref a :: rest, pc := g.pc + 3 }) hg hlocked hentered hout (a := a) (rest := rest) rfl hd9
  have hlt : a < ((W0.setVm vm₁).setVm vm₂).heap.size := (Array.getElem?_eq_some_iff.mp hcell).1
  have hU := heapAt_setCell_self (s := (W0.setVm vm₁).setVm vm₂) (plainBareV T.toThrowableT (freshCell P1.m.cls kX) a u0 sen msg) hlt
  refine ⟨_, st1 _ (fun acts => ?_), hrun, hended, hWU, hsame.weaken (fun y hy hlt' => ?_) (Nat.le_refl _) (Nat.le_refl _), _, hU, rfl, hfound⟩
  · rw [doInvoke_state]
    exact st2 _ hwalk
  · rcases List.mem_append.mp hy with h1 | h1
    · exact h1
    · exfalso
      have hb : y.base = a := by
        simp only [List.mem_cons, List.not_mem_nil, or_false] at h1
        rcases h1 with rfl | rfl | rfl | rfl | rfl <;> rfl
      rw [hb] at hlt'
      exact Nat.not_lt.mpr hnew hlt'
end VYC
section VYT
variable {p : Program} {l : Launch} {e : Env} {R : Room} {s : State} {m : MethodId} {args : Array Value} {below : List Frame} {meth : Method} {c : Code} {H : Heap} {locs : List Loc} {cells slots : Nat}
variable {cc : ByteArray} {pc nL : Nat} {ls : Array Slot} {rest : List Value} {D : va_G} {tys : List (ClassId × FieldType)} {Hb : Heap} {K : kTx} {lv : Nat → Prop} {ad : Nat → Nat} {ce ce2 : Nat → va_E} {Ts : List Cond} {own : String}
set_option maxHeartbeats 2000000 in
/-- 'throw new NoSuchElementException("text")' -/
theorem k_throwN {cls text : String} {ik is ic mc ms i : Nat} {thr : Option String} {Qc : Array Value → State → Outcome → State → Prop} (S : kX p m c cc nL s args Ts own D tys Hb K) (hl : l.stackTraces = false) (hH : ∀ q : Nat, q < Hb.size → s.heap[q]? = Hb[q]?) (hG : gW D Hb lv ad ce H) (hL : gL Hb locs)
    (hcls : Bundle.fit cls = true) (hk : (Cond.classLink own ik cls).before args s = true) (hini : (Cond.initialized cls).before args s = true) (hstr : kStr[i]? = some (own, is, text)) (hA : ∀ w ∈ (vy_at own ic cls ["java/lang/RuntimeException", "java/lang/Exception"]).filter goodWord, w ∈ Ts) (hB : ∀ w ∈ (vy_at own ic cls ["java/lang/RuntimeException", "java/lang/Exception"]).filter (fun w => !goodWord w), w ∈ xB cls) (hCc : (cls, cls) ∈ kNc)
    (hgood : ∀ w ∈ Cond.classLink own ik cls :: Cond.initialized cls :: vy_at own ic cls ["java/lang/RuntimeException", "java/lang/Exception"], vx_ot w = true) (hsize : ls.size = nL)
    (d0 : decode cc pc = .ok (.new ik, 3)) (d3 : decode cc (pc + 3) = .ok (.dup, 1)) (d4 : decode cc (pc + 4) = .ok (.ldc is, 2)) (d6 : decode cc (pc + 6) = .ok (.invokespecial ic, 3)) (d9 : decode cc (pc + 9) = .ok (.athrow, 1))
    (hout : ∀ x ∈ c.exceptionTable.toList, False) (hRf : 5 < R.frames) (hRl : (rest.map fun v => v.category).sum + 82 ≤ R.locals) (hRc : cells + 1 ≤ R.cells) (hRs : slots + 6 ≤ R.slots) (hlocks : meth.locks = false) (hth : thr = some cls) (e2 : ce = ce2) (hc : cells + 1 ≤ mc) (hs : slots + 6 ≤ ms) :
    W p l e R s m args below meth c H locs cells slots (vx_MQ below Qc (xX D Hb lv ad thr ce2) args s mc ms (gA Hb)) (F0 m pc ls rest) := by
  intro T hT X
  obtain ⟨⟨hexec, hb, hml, hown, hts⟩, hK, hE⟩ := S
  have hsz : s.heap.size ≤ H.size := by
    have h := (vx_frame (U := T) X.same).1
    rw [hT] at h
    exact h
  have hkept : ∀ a : Nat, a < Hb.size → ¬ gA Hb a → s.heap[a]? = Hb[a]? := fun a ha _ => hH a ha
  have hat : ∀ w ∈ vy_at own ic cls ["java/lang/RuntimeException", "java/lang/Exception"], w.before args s = true := vx_hat (fun w hw => hts w (hA w hw)) hB (vx_c (va_Nw.use rfl (hE.2.2.1 _ hCc)) (vx_c (va_Nw.use rfl (hE.2.2.2.1 _ (List.mem_of_getElem? (i := 0) rfl))) (vx_c (va_Nw.use rfl (hE.2.2.2.1 _ (List.mem_of_getElem? (i := 1) rfl))) (vx_c (va_Nw.use rfl (hE.2.2.2.1 _ (List.mem_of_getElem? (i := 2) rfl))) vx_n))))
  have hS : va_S (gA Hb) s.heap H locs := ⟨hsz, fun q _ hq => by
    have hq' : q < Hb.size := Nat.lt_of_not_le hq
    rw [hH q hq']; exact hG.2.2.2.2 q hq', hL⟩
  have hstr0 := hE.2.2.2.2.1 i _ hstr
  obtain ⟨sa, hsa⟩ : ∃ sa, vk_R own is text sa s := ⟨_, hstr0⟩
  have hU := hE.2.2.2.2.2.1.kept hkept
  have hN := hE.2.2.2.2.2.2.1.kept hkept
  have htr : e.platform.stackTraces = false := (show e.platform.stackTraces = l.stackTraces by rw [X.admits.platform]).trans hl
  have Y := vx_rebase X (R' := { frames := R.frames, locals := R.locals, cells := 1, slots := 6 }) (Nat.le_refl _) (Nat.le_refl _) hRc hRs
  obtain ⟨s', hA'⟩ : ∃ z, z = (T.setVm s.vm).setFrames (.invoking m args :: below) := ⟨_, rfl⟩
  rw [← hA'] at Y
  have hvm : s'.vm = s.vm := by rw [hA']; rfl
  have hhp : s'.heap = H := by rw [hA']; exact hT
  have hW0 : s.WarmedH s'.vm := by rw [hvm]; exact State.WarmedH.refl s
  have hat' : ∀ w ∈ vy_at own ic cls ["java/lang/RuntimeException", "java/lang/Exception"], w.before args s' = true := fun w hw => vx_ot_at hW0 hvm.symm (hgood w (List.mem_cons_of_mem _ (List.mem_cons_of_mem _ hw))) (hat w hw)
  have hk' : (Cond.classLink own ik cls).before args s' = true := vx_ot_at hW0 hvm.symm (hgood _ List.mem_cons_self) hk
  have hini' : (Cond.initialized cls).before args s' = true := vx_ot_at hW0 hvm.symm (hgood _ (List.mem_cons_of_mem _ List.mem_cons_self)) hini
  have hU' : vx_Zq Bundle.tN "UNASSIGNED_STACK" Bundle.steD (gA Hb) s' s'.heap := by rw [hhp]; exact vx_Zq.moved hW0.alike (hU.kept hS.2.1)
  have hN' : vx_Zq Bundle.tN "SUPPRESSED_SENTINEL" Bundle.listD (gA Hb) s' s'.heap := by rw [hhp]; exact vx_Zq.moved hW0.alike (hN.kept hS.2.1)
  have h : ∀ w ∈ Bundle.ownAtomsX own ic cls 13 cNse ["java/lang/RuntimeException", "java/lang/Exception"], w.before args s' = true := vx_own hat' (vx_isRefq hU'.1) (vx_isRefq hN'.1) hU'.2.word hN'.2.word
  have hown' : s'.vm.findClass own = some m.cls := by rw [hvm]; exact hown
  have hins : (Cond.instantiable cls 6).before args s' = true := h _ (by simp [Bundle.ownAtomsX])
  obtain ⟨vm₁, cX, kX', hfX, hkX, -, -, X₁, st1⟩ := Y.newCold hexec (own := own) (C := cls) (index := ik) (n := 6) hown' hk' hins hini'
    (g := F0 m pc ls rest) rfl (by rw [hb]; exact d0) (Nat.le_refl _) (Nat.le_refl _)
  generalize hT1 : (T.setVm vm₁).pushCell { cls := cX, slots := kX'.instanceTypes.map defaultValue, vm := .none } = T1 at X₁ st1
  have hcat : (Value.ref T.heap.size).category = 1 := rfl
  have hcellA : T1.heap[T.heap.size]? = some (freshCell cX kX') := by rw [← hT1]; exact State.heap_pushCell_size _ _
  have d3' : decode c.code (pc + 3) = .ok (.dup, 1) := by rw [hb]; exact d3
  have d4' : decode c.code (pc + 4) = .ok (.ldc is, 2) := by rw [hb]; exact d4
  have hstr' : vk_R own is text sa s' := vk_R.warm hW0 hsa
  obtain ⟨U, hsteps, hrun, hend, hW, hsame, c9, hce, hcv, hcf⟩ := vy_ctor X₁ hexec htr (own := own) (cls := cls) (names := ["java/lang/RuntimeException", "java/lang/Exception"]) (ic := ic) cNse_0 cNse_1 cNse_2 cNse_5 hown' hcls (by decide +kernel) h (fun x hx => nomatch hx) hfX hkX hcellA (by rw [hhp, hT]; exact Nat.le_refl _) (msg := .ref sa) rfl
    (g := { method := m, pc := pc + 6, locals := ls, stack := .ref sa :: .ref T.heap.size :: .ref T.heap.size :: rest, locked := none }) rfl (hsize.trans hml.symm) rfl rfl (rest := rest) rfl
    (by rw [hb]; exact d6) (by rw [hb]; exact d9) (fun x hx => (hout x hx).elim) hRf (by simp only [List.map_cons, List.sum_cons, hcat, List.length_cons, List.length_nil]; omega) hlocks
  obtain ⟨f1, f2⟩ := vx_frame hsame
  rw [hhp] at f1 f2
  have hWs : s.WarmedH U.vm := State.WarmedH.trans hW0 hW
  have hcl : s.vm.findClass cls = some c9.cls := by
    rw [hvm] at hcf
    exact hcf
  have hall : s.sameButNew ({ U with vm := s.vm } : State) locs mc ms := by
    subst hA'
    obtain ⟨e1, e2⟩ := hsame
    rw [State.setFrames_setFrames] at e1
    have h2 : (T.setVm s.vm).sameButNew ({ U with vm := s.vm } : State) [] (0 + 1) (0 + 6) := ⟨e1, e2⟩
    have h3 := X.same.trans h2
    rw [List.append_nil] at h3
    exact h3.mono hc hs
  refine ⟨U, ?_, .threw T.heap.size, hrun, hend, Or.inr ⟨T.heap.size, rfl, cls, c9, locs, ⟨hth, by rw [← e2]; exact hG.more f1 (fun q hq => f2 q hq (fun z hz => nomatch hz))⟩, hce, hcv, hcl, hWs, hall, hL⟩⟩
  refine st1 _ ?_
  show Steps p.tables e below (T1.setTop { method := m, pc := pc + 3, locals := ls, stack := .ref T.heap.size :: rest, locked := none }) _
  jvm_step X₁.here [X₁.here.top, hexec, d3', Value.category]
  exact X₁.ldcString hexec (own := own) (text := text) (index := is) (a := sa) hown' hstr'.1 hstr'.2
    (g := { method := m, pc := pc + 4, locals := ls, stack := .ref T.heap.size :: .ref T.heap.size :: rest, locked := none }) rfl d4' _ hsteps
end VYT
def wqX1_told : List Cond := .code yX1_told cX1_told 2 (some .int) :: ([.classLink RX1 66 "java/util/NoSuchElementException", .initialized "java/util/NoSuchElementException", .fieldLink RX1 15 "SwarmLine$Case" "state" "I", .fieldLink RX1 40 "SwarmLine$Case" "x" "I", .fieldLink RX1 43 "SwarmLine$Case" "y" "I", .fieldLink RX1 19 "SwarmLine$Case" "high" "I", .fieldLink RX1 22 "SwarmLine$Case" "since" "I", .fieldLink RX1 25 "SwarmLine$Case" "mark" "I", .fieldLink RX1 28 "SwarmLine$Case" "callsMelted" "I", .fieldLink RX1 31 "SwarmLine$Case" "latest" "I", .fieldLink RX1 34 "SwarmLine$Case" "keeper" "I", .fieldLink RX1 37 "SwarmLine$Case" "swarm" "I"] ++ wsX10 ++ (vy_at RX1 70 "java/util/NoSuchElementException" ["java/lang/RuntimeException", "java/lang/Exception"]).filter goodWord)
def wqX3_told : List Cond := .code yX3_told cX3_told 2 (some .int) :: ([.classLink RX3 57 "java/util/NoSuchElementException", .initialized "java/util/NoSuchElementException", .fieldLink RX3 24 "SwarmLine$Hive" "bees" "I", .fieldLink RX3 27 "SwarmLine$Hive" "room" "I", .fieldLink RX3 30 "SwarmLine$Hive" "mark" "I", .fieldLink RX3 9 "SwarmLine$Hive" "warm" "I", .fieldLink RX3 15 "SwarmLine$Hive" "swarmedLast" "I"] ++ wsX30 ++ (vy_at RX3 61 "java/util/NoSuchElementException" ["java/lang/RuntimeException", "java/lang/Exception"]).filter goodWord)
def wqX4_told : List Cond := .code yX4_told cX4_told 2 (some .int) :: ([.classLink RX4 60 "java/util/NoSuchElementException", .initialized "java/util/NoSuchElementException", .fieldLink RX4 9 "SwarmLine$Keeper" "state" "I", .fieldLink RX4 33 "SwarmLine$Keeper" "boxes" "I", .fieldLink RX4 18 "SwarmLine$Keeper" "hoursToGo" "I", .fieldLink RX4 21 "SwarmLine$Keeper" "aCase" "I", .fieldLink RX4 24 "SwarmLine$Keeper" "swarmsHad" "I"] ++ wsX40 ++ (vy_at RX4 64 "java/util/NoSuchElementException" ["java/lang/RuntimeException", "java/lang/Exception"]).filter goodWord)
def wqX6_told : List Cond := .code yX6_told cX6_told 2 (some .int) :: ([.classLink RX6 62 "java/util/NoSuchElementException", .initialized "java/util/NoSuchElementException", .fieldLink RX6 15 "SwarmLine$Swarm" "state" "I", .fieldLink RX6 27 "SwarmLine$Swarm" "hive" "I", .fieldLink RX6 35 "SwarmLine$Swarm" "bees" "I", .fieldLink RX6 43 "SwarmLine$Swarm" "x" "I", .fieldLink RX6 47 "SwarmLine$Swarm" "y" "I", .fieldLink RX6 48 "SwarmLine$Swarm" "height" "I", .fieldLink RX6 51 "SwarmLine$Swarm" "leftAt" "I", .fieldLink RX6 9 "SwarmLine$Swarm" "patience" "I", .fieldLink RX6 18 "SwarmLine$Swarm" "keeper" "I", .fieldLink RX6 24 "SwarmLine$Swarm" "ended" "I"] ++ wsX60 ++ (vy_at RX6 66 "java/util/NoSuchElementException" ["java/lang/RuntimeException", "java/lang/Exception"]).filter goodWord)
def wqX9_look : List Cond := .code yX9_look cX9_look 3 (some .int) :: ((wsX9_look_r1 ++ wsX9_look_r2) ++ wsX90 ++ wsJx4a65c0 ++ wsX30 ++ (vx_atS RX9 98 "java/lang/IndexOutOfBoundsException" ["java/lang/RuntimeException", "java/lang/Exception"]).filter goodWord ++ (vy_at RX3 61 "java/util/NoSuchElementException" ["java/lang/RuntimeException", "java/lang/Exception"]).filter goodWord)
def wqX9_swarm : List Cond := .code yX9_swarm cX9_swarm 3 (some .int) :: ((wsX9_swarm_r1 ++ (wsX9_swarm_r2 ++ wsX9_swarm_r3)) ++ wsX90 ++ wsJx4a65c0 ++ wsX60 ++ (vx_atS RX9 98 "java/lang/IndexOutOfBoundsException" ["java/lang/RuntimeException", "java/lang/Exception"]).filter goodWord ++ (vy_at RX6 66 "java/util/NoSuchElementException" ["java/lang/RuntimeException", "java/lang/Exception"]).filter goodWord)
def wqX9_crew : List Cond := .code yX9_crew cX9_crew 3 (some .int) :: ((wsX9_crew_r1 ++ wsX9_crew_r2) ++ wsX90 ++ wsJx4a65c0 ++ wsX40 ++ (vx_atS RX9 98 "java/lang/IndexOutOfBoundsException" ["java/lang/RuntimeException", "java/lang/Exception"]).filter goodWord ++ (vy_at RX4 64 "java/util/NoSuchElementException" ["java/lang/RuntimeException", "java/lang/Exception"]).filter goodWord)
def wqX9_matter : List Cond := .code yX9_matter cX9_matter 3 (some .int) :: ((wsX9_matter_r1 ++ (wsX9_matter_r2 ++ wsX9_matter_r3)) ++ wsX90 ++ wsJx4a65c0 ++ wsX10 ++ (vx_atS RX9 98 "java/lang/IndexOutOfBoundsException" ["java/lang/RuntimeException", "java/lang/Exception"]).filter goodWord ++ (vy_at RX1 70 "java/util/NoSuchElementException" ["java/lang/RuntimeException", "java/lang/Exception"]).filter goodWord)
set_option maxRecDepth 20000 in
theorem qqX9_look_Jx4a65c_size_8abf5 : GoodIn wqX9_look wsJx4a65c_size_8abf5 := goodIn_r _ [9, 10, 54, 55, 56] (by decide +kernel) (by decide +kernel)
set_option maxRecDepth 20000 in
theorem qX9_look_Jx4a65c_size_8abf5 : GoodIn wqX9_look (wsV RX9 143 RJx4a65c yJx4a65c_size_8abf5 wsJx4a65c_size_8abf5) := goodIn_app (goodIn_of _ (by decide +kernel)) qqX9_look_Jx4a65c_size_8abf5
set_option maxRecDepth 20000 in
theorem qqX9_look_Jx4a65c_get_915e3 : GoodIn wqX9_look wsJx4a65c_get_915e3 := goodIn_r _ [14, 10, 15, 16, 17, 18, 19, 20, 21, 22, 23, 24, 25, 8, 26, 27, 54, 55, 56] (by decide +kernel) (by decide +kernel)
set_option maxRecDepth 20000 in
theorem qX9_look_Jx4a65c_get_915e3 : GoodIn wqX9_look (wsV RX9 275 RJx4a65c yJx4a65c_get_915e3 wsJx4a65c_get_915e3) := goodIn_app (goodIn_of _ (by decide +kernel)) qqX9_look_Jx4a65c_get_915e3
set_option maxRecDepth 20000 in
theorem qqX9_look_X3_told : GoodIn wqX9_look wqX3_told := goodIn_ca (goodIn_r _ [32, 33, 34, 35, 36, 37, 38, 39, 57, 58, 59, 60, 61, 62, 63] (by decide +kernel) (by decide +kernel)) (goodIn_sub (fun _ h => List.mem_cons_of_mem _ (List.mem_append_right _ h)) (by decide +kernel))
set_option maxRecDepth 20000 in
theorem qX9_look_X3_told : GoodIn wqX9_look (wsV RX9 308 RX3 yX3_told wqX3_told) := goodIn_app (goodIn_of _ (by decide +kernel)) qqX9_look_X3_told
set_option maxRecDepth 20000 in
theorem qqX9_swarm_X9_swarmNumbered : GoodIn wqX9_swarm wsX9_swarmNumbered := goodIn_ca (goodIn_r _ [5, 6, 7, 8, 9, 10, 11, 12, 13, 14, 15, 16, 17, 18, 19, 20, 21, 22, 23, 24, 25, 26, 27, 28, 29, 30, 31, 32, 50, 51, 52, 53, 54, 55, 56, 57, 58, 59, 60, 61, 62, 63, 64, 65, 66] (by decide +kernel) (by decide +kernel)) (goodIn_sub (fun _ h => List.mem_cons_of_mem _ (List.mem_append_left _ (List.mem_append_right _ h))) (by decide +kernel))
set_option maxRecDepth 20000 in
theorem qX9_swarm_X9_swarmNumbered : GoodIn wqX9_swarm (wsV RX9 287 RX9 yX9_swarmNumbered wsX9_swarmNumbered) := goodIn_app (goodIn_of _ (by decide +kernel)) qqX9_swarm_X9_swarmNumbered
set_option maxRecDepth 20000 in
theorem qqX9_swarm_X6_told : GoodIn wqX9_swarm wqX6_told := goodIn_ca (goodIn_r _ [37, 38, 39, 40, 41, 42, 43, 44, 45, 46, 47, 48, 49, 67, 68, 69, 70, 71, 72, 73, 74, 75, 76, 77] (by decide +kernel) (by decide +kernel)) (goodIn_sub (fun _ h => List.mem_cons_of_mem _ (List.mem_append_right _ h)) (by decide +kernel))
set_option maxRecDepth 20000 in
theorem qX9_swarm_X6_told : GoodIn wqX9_swarm (wsV RX9 310 RX6 yX6_told wqX6_told) := goodIn_app (goodIn_of _ (by decide +kernel)) qqX9_swarm_X6_told
set_option maxRecDepth 20000 in
theorem qqX9_crew_X9_keeperNumbered : GoodIn wqX9_crew wsX9_keeperNumbered := goodIn_ca (goodIn_r _ [5, 6, 7, 8, 9, 10, 11, 12, 13, 14, 15, 16, 17, 18, 19, 20, 21, 22, 23, 24, 25, 26, 27, 28, 29, 30, 31, 32, 45, 46, 47, 48, 49, 50, 51, 52, 53, 54, 55, 56, 57, 58, 59, 60, 61] (by decide +kernel) (by decide +kernel)) (goodIn_sub (fun _ h => List.mem_cons_of_mem _ (List.mem_append_left _ (List.mem_append_right _ h))) (by decide +kernel))
set_option maxRecDepth 20000 in
theorem qX9_crew_X9_keeperNumbered : GoodIn wqX9_crew (wsV RX9 172 RX9 yX9_keeperNumbered wsX9_keeperNumbered) := goodIn_app (goodIn_of _ (by decide +kernel)) qqX9_crew_X9_keeperNumbered
set_option maxRecDepth 20000 in
theorem qqX9_crew_X4_told : GoodIn wqX9_crew wqX4_told := goodIn_ca (goodIn_r _ [37, 38, 39, 40, 41, 42, 43, 44, 62, 63, 64, 65, 66, 67, 68, 69, 70, 71, 72, 73] (by decide +kernel) (by decide +kernel)) (goodIn_sub (fun _ h => List.mem_cons_of_mem _ (List.mem_append_right _ h)) (by decide +kernel))
set_option maxRecDepth 20000 in
theorem qX9_crew_X4_told : GoodIn wqX9_crew (wsV RX9 311 RX4 yX4_told wqX4_told) := goodIn_app (goodIn_of _ (by decide +kernel)) qqX9_crew_X4_told
set_option maxRecDepth 20000 in
theorem qqX9_matter_X9_caseNumbered : GoodIn wqX9_matter wsX9_caseNumbered := goodIn_ca (goodIn_r _ [5, 6, 7, 8, 9, 10, 11, 12, 13, 14, 15, 16, 17, 18, 19, 20, 21, 22, 23, 24, 25, 26, 27, 28, 29, 30, 31, 32, 50, 51, 52, 53, 54, 55, 56, 57, 58, 59, 60, 61, 62, 63, 64, 65, 66] (by decide +kernel) (by decide +kernel)) (goodIn_sub (fun _ h => List.mem_cons_of_mem _ (List.mem_append_left _ (List.mem_append_right _ h))) (by decide +kernel))
set_option maxRecDepth 20000 in
theorem qX9_matter_X9_caseNumbered : GoodIn wqX9_matter (wsV RX9 220 RX9 yX9_caseNumbered wsX9_caseNumbered) := goodIn_app (goodIn_of _ (by decide +kernel)) qqX9_matter_X9_caseNumbered
set_option maxRecDepth 20000 in
theorem qqX9_matter_X1_told : GoodIn wqX9_matter wqX1_told := goodIn_ca (goodIn_r _ [37, 38, 39, 40, 41, 42, 43, 44, 45, 46, 47, 48, 49, 67, 68, 69, 70, 71, 72, 73, 74, 75, 76, 77] (by decide +kernel) (by decide +kernel)) (goodIn_sub (fun _ h => List.mem_cons_of_mem _ (List.mem_append_right _ h)) (by decide +kernel))
set_option maxRecDepth 20000 in
theorem qX9_matter_X1_told : GoodIn wqX9_matter (wsV RX9 312 RX1 yX1_told wqX1_told) := goodIn_app (goodIn_of _ (by decide +kernel)) qqX9_matter_X1_told
set_option maxHeartbeats 4000000 in
set_option maxRecDepth 100000 in
theorem e_X1_told {l : Launch} {D : va_G} {cI cZ cB cO cR cJ : ClassId} {Hb : Heap} {K : kTx} {lv : Nat → Prop} {ad : Nat → Nat} {ce0 : Nat → va_E} (hst : l.stackTraces = false) (s : Nat → Int32) (r : Nat → Nat → Int32) (hlv : kL lv s) (i : Nat) (hi : i < (s 39).toNatClampNeg) (hi9 : i < 1000) (w : Int32)  : xMet l D cI cZ cB cO cR cJ Hb K lv ad ce0 yX1_told wqX1_told 6 92 1 [.ref (ad (4000 + i)), .int w] s r (xTo 9 w) (some (.int (tab9 w (r 41 i) (r 42 i) (r 43 i) (r 45 i) (r 46 i) (r 47 i) (r 48 i) (r 49 i) (r 50 i) (r 51 i)))) s r s r := by
  refine vx_ofW (cc := cX1_told) (maxL := 2) (ret := (some .int)) (by decide) rfl ?_
  intro p0 e0 s0 m0 args below meth c0 s₁ B hml hout hv
  obtain ⟨rfl, hG, hK, hE⟩ := hv
  have hx := B.exec
  have hb := B.bytes
  have hr := B.returns
  have hts := atoms_spec (ws := wqX1_told) B.pre
  have hown : s0.vm.findClass RX1 = some m0.cls := findClass_of_methodNamed B.named
  have hlocks := B.notSynchronized
  have S : kX p0 m0 c0 cX1_told 2 s0 _ wqX1_told RX1 D (tyL cI cZ cB cO cR cJ) Hb K := ⟨⟨hx, hb, hml, hown, hts⟩, hK, hE⟩
  have hL : gL Hb [] := gL.nil
  have hH := hG.2.2.2.2
  have hl := lv_entry ([.ref (ad (4000 + i)), .int w]) (n := 2) (Nat.le_of_ble_eq_true rfl)
  rw [lg_entry_eq]
  generalize (lg_sl ([.ref (ad (4000 + i)), .int w]) ++ List.replicate (2 - (lg_sl ([.ref (ad (4000 + i)), .int w])).length) Slot.unset).toArray = ls at hl ⊢
  have hl : lv_has ls 2 [(0, .ref (ad (4000 + i))), (1, .int w)] := hl
  refine lv_iload_n hx hb dX1_told_0 rfl (lv_at hl 1 rfl) ?_
  by_cases csw : w.toInt < 0 ∨ 9 < w.toInt
  ·
    refine lv_tableOut (tgt := 106) hx hb dX1_told_1 csw (by decide) ?_
    exact k_throwN (cls := "java/util/NoSuchElementException") (text := "nothing such is told of a case") (i := 29) S hst hH hG hL (by decide +kernel) (hts (.classLink RX1 66 "java/util/NoSuchElementException") (by decide +kernel)) (hts (.initialized "java/util/NoSuchElementException") (by decide +kernel)) rfl (fun w h => List.mem_cons_of_mem _ (List.mem_append_right _ h)) (by decide +kernel) (by decide +kernel) (by decide +kernel) hl.1 dX1_told_106 dX1_told_109 dX1_told_110 dX1_told_112 dX1_told_115 hout (Nat.le_of_ble_eq_true rfl) (Nat.le_of_ble_eq_true rfl) (Nat.le_of_ble_eq_true rfl) (Nat.le_of_ble_eq_true rfl) hlocks (by show xTo 9 w = _; unfold xTo; rw [if_pos (fIn_out (hi := 9) csw)]) (congr (congrArg (kJ ce0 ad K.2.2.1 cI cB cO cR) (by rfl)) (by rfl)) (Nat.le_of_ble_eq_true rfl) (Nat.le_of_ble_eq_true rfl)
  ·
    have csx : w = 0 ∨ w = 1 ∨ w = 2 ∨ w = 3 ∨ w = 4 ∨ w = 5 ∨ w = 6 ∨ w = 7 ∨ w = 8 ∨ w = 9 := by simp only [t_eq]; simp; omega
    rcases csx with csx | csx | csx | csx | csx | csx | csx | csx | csx | csx
    ·
      refine lv_tableIn (tgt := 56) (off := 55) hx hb dX1_told_1 (by rw [csx]; decide) (by rw [csx]; decide) (by rw [csx]; rfl) (by decide) ?_
      refine lv_aload_n hx hb dX1_told_56 rfl (lv_at hl 0 rfl) ?_
      refine k_gi (C := RX1) (T := TX1) (N := 11) (ci := 2) (v := r 41 i) S hG (fun w h => List.mem_cons_of_mem _ (List.mem_append_left _ (List.mem_append_right _ h))) (4000 + i) (hlv.ca hi) (kJ_ca hi9) rfl 3 (by decide) rfl (hts (.fieldLink RX1 15 "SwarmLine$Case" "state" "I") (by decide +kernel)) rfl (rfl) dX1_told_57 ?_
      exact x_iret S.1 hr hlocks hG hL (by rw [csx]; rfl) (congrArg (fun z => some (Value.int z)) (by rw [csx]; rfl)) (congr (congrArg (kJ ce0 ad K.2.2.1 cI cB cO cR) (by rfl)) (by rfl)) dX1_told_60 (Nat.le_of_ble_eq_true rfl) (Nat.le_of_ble_eq_true rfl)
    ·
      refine lv_tableIn (tgt := 61) (off := 60) hx hb dX1_told_1 (by rw [csx]; decide) (by rw [csx]; decide) (by rw [csx]; rfl) (by decide) ?_
      refine lv_aload_n hx hb dX1_told_61 rfl (lv_at hl 0 rfl) ?_
      refine k_gi (C := RX1) (T := TX1) (N := 11) (ci := 2) (v := r 42 i) S hG (fun w h => List.mem_cons_of_mem _ (List.mem_append_left _ (List.mem_append_right _ h))) (4000 + i) (hlv.ca hi) (kJ_ca hi9) rfl 0 (by decide) rfl (hts (.fieldLink RX1 40 "SwarmLine$Case" "x" "I") (by decide +kernel)) rfl (rfl) dX1_told_62 ?_
      exact x_iret S.1 hr hlocks hG hL (by rw [csx]; rfl) (congrArg (fun z => some (Value.int z)) (by rw [csx]; rfl)) (congr (congrArg (kJ ce0 ad K.2.2.1 cI cB cO cR) (by rfl)) (by rfl)) dX1_told_65 (Nat.le_of_ble_eq_true rfl) (Nat.le_of_ble_eq_true rfl)
    ·
      refine lv_tableIn (tgt := 66) (off := 65) hx hb dX1_told_1 (by rw [csx]; decide) (by rw [csx]; decide) (by rw [csx]; rfl) (by decide) ?_
      refine lv_aload_n hx hb dX1_told_66 rfl (lv_at hl 0 rfl) ?_
      refine k_gi (C := RX1) (T := TX1) (N := 11) (ci := 2) (v := r 43 i) S hG (fun w h => List.mem_cons_of_mem _ (List.mem_append_left _ (List.mem_append_right _ h))) (4000 + i) (hlv.ca hi) (kJ_ca hi9) rfl 1 (by decide) rfl (hts (.fieldLink RX1 43 "SwarmLine$Case" "y" "I") (by decide +kernel)) rfl (rfl) dX1_told_67 ?_
      exact x_iret S.1 hr hlocks hG hL (by rw [csx]; rfl) (congrArg (fun z => some (Value.int z)) (by rw [csx]; rfl)) (congr (congrArg (kJ ce0 ad K.2.2.1 cI cB cO cR) (by rfl)) (by rfl)) dX1_told_70 (Nat.le_of_ble_eq_true rfl) (Nat.le_of_ble_eq_true rfl)
    ·
      refine lv_tableIn (tgt := 71) (off := 70) hx hb dX1_told_1 (by rw [csx]; decide) (by rw [csx]; decide) (by rw [csx]; rfl) (by decide) ?_
      refine lv_aload_n hx hb dX1_told_71 rfl (lv_at hl 0 rfl) ?_
      refine k_gi (C := RX1) (T := TX1) (N := 11) (ci := 2) (v := r 45 i) S hG (fun w h => List.mem_cons_of_mem _ (List.mem_append_left _ (List.mem_append_right _ h))) (4000 + i) (hlv.ca hi) (kJ_ca hi9) rfl 4 (by decide) rfl (hts (.fieldLink RX1 19 "SwarmLine$Case" "high" "I") (by decide +kernel)) rfl (rfl) dX1_told_72 ?_
      exact x_iret S.1 hr hlocks hG hL (by rw [csx]; rfl) (congrArg (fun z => some (Value.int z)) (by rw [csx]; rfl)) (congr (congrArg (kJ ce0 ad K.2.2.1 cI cB cO cR) (by rfl)) (by rfl)) dX1_told_75 (Nat.le_of_ble_eq_true rfl) (Nat.le_of_ble_eq_true rfl)
    ·
      refine lv_tableIn (tgt := 76) (off := 75) hx hb dX1_told_1 (by rw [csx]; decide) (by rw [csx]; decide) (by rw [csx]; rfl) (by decide) ?_
      refine lv_aload_n hx hb dX1_told_76 rfl (lv_at hl 0 rfl) ?_
      refine k_gi (C := RX1) (T := TX1) (N := 11) (ci := 2) (v := r 46 i) S hG (fun w h => List.mem_cons_of_mem _ (List.mem_append_left _ (List.mem_append_right _ h))) (4000 + i) (hlv.ca hi) (kJ_ca hi9) rfl 5 (by decide) rfl (hts (.fieldLink RX1 22 "SwarmLine$Case" "since" "I") (by decide +kernel)) rfl (rfl) dX1_told_77 ?_
      exact x_iret S.1 hr hlocks hG hL (by rw [csx]; rfl) (congrArg (fun z => some (Value.int z)) (by rw [csx]; rfl)) (congr (congrArg (kJ ce0 ad K.2.2.1 cI cB cO cR) (by rfl)) (by rfl)) dX1_told_80 (Nat.le_of_ble_eq_true rfl) (Nat.le_of_ble_eq_true rfl)
    ·
      refine lv_tableIn (tgt := 81) (off := 80) hx hb dX1_told_1 (by rw [csx]; decide) (by rw [csx]; decide) (by rw [csx]; rfl) (by decide) ?_
      refine lv_aload_n hx hb dX1_told_81 rfl (lv_at hl 0 rfl) ?_
      refine k_gi (C := RX1) (T := TX1) (N := 11) (ci := 2) (v := r 47 i) S hG (fun w h => List.mem_cons_of_mem _ (List.mem_append_left _ (List.mem_append_right _ h))) (4000 + i) (hlv.ca hi) (kJ_ca hi9) rfl 6 (by decide) rfl (hts (.fieldLink RX1 25 "SwarmLine$Case" "mark" "I") (by decide +kernel)) rfl (rfl) dX1_told_82 ?_
      exact x_iret S.1 hr hlocks hG hL (by rw [csx]; rfl) (congrArg (fun z => some (Value.int z)) (by rw [csx]; rfl)) (congr (congrArg (kJ ce0 ad K.2.2.1 cI cB cO cR) (by rfl)) (by rfl)) dX1_told_85 (Nat.le_of_ble_eq_true rfl) (Nat.le_of_ble_eq_true rfl)
    ·
      refine lv_tableIn (tgt := 86) (off := 85) hx hb dX1_told_1 (by rw [csx]; decide) (by rw [csx]; decide) (by rw [csx]; rfl) (by decide) ?_
      refine lv_aload_n hx hb dX1_told_86 rfl (lv_at hl 0 rfl) ?_
      refine k_gi (C := RX1) (T := TX1) (N := 11) (ci := 2) (v := r 48 i) S hG (fun w h => List.mem_cons_of_mem _ (List.mem_append_left _ (List.mem_append_right _ h))) (4000 + i) (hlv.ca hi) (kJ_ca hi9) rfl 7 (by decide) rfl (hts (.fieldLink RX1 28 "SwarmLine$Case" "callsMelted" "I") (by decide +kernel)) rfl (rfl) dX1_told_87 ?_
      exact x_iret S.1 hr hlocks hG hL (by rw [csx]; rfl) (congrArg (fun z => some (Value.int z)) (by rw [csx]; rfl)) (congr (congrArg (kJ ce0 ad K.2.2.1 cI cB cO cR) (by rfl)) (by rfl)) dX1_told_90 (Nat.le_of_ble_eq_true rfl) (Nat.le_of_ble_eq_true rfl)
    ·
      refine lv_tableIn (tgt := 91) (off := 90) hx hb dX1_told_1 (by rw [csx]; decide) (by rw [csx]; decide) (by rw [csx]; rfl) (by decide) ?_
      refine lv_aload_n hx hb dX1_told_91 rfl (lv_at hl 0 rfl) ?_
      refine k_gi (C := RX1) (T := TX1) (N := 11) (ci := 2) (v := r 49 i) S hG (fun w h => List.mem_cons_of_mem _ (List.mem_append_left _ (List.mem_append_right _ h))) (4000 + i) (hlv.ca hi) (kJ_ca hi9) rfl 8 (by decide) rfl (hts (.fieldLink RX1 31 "SwarmLine$Case" "latest" "I") (by decide +kernel)) rfl (rfl) dX1_told_92 ?_
      exact x_iret S.1 hr hlocks hG hL (by rw [csx]; rfl) (congrArg (fun z => some (Value.int z)) (by rw [csx]; rfl)) (congr (congrArg (kJ ce0 ad K.2.2.1 cI cB cO cR) (by rfl)) (by rfl)) dX1_told_95 (Nat.le_of_ble_eq_true rfl) (Nat.le_of_ble_eq_true rfl)
    ·
      refine lv_tableIn (tgt := 96) (off := 95) hx hb dX1_told_1 (by rw [csx]; decide) (by rw [csx]; decide) (by rw [csx]; rfl) (by decide) ?_
      refine lv_aload_n hx hb dX1_told_96 rfl (lv_at hl 0 rfl) ?_
      refine k_gi (C := RX1) (T := TX1) (N := 11) (ci := 2) (v := r 50 i) S hG (fun w h => List.mem_cons_of_mem _ (List.mem_append_left _ (List.mem_append_right _ h))) (4000 + i) (hlv.ca hi) (kJ_ca hi9) rfl 9 (by decide) rfl (hts (.fieldLink RX1 34 "SwarmLine$Case" "keeper" "I") (by decide +kernel)) rfl (rfl) dX1_told_97 ?_
      exact x_iret S.1 hr hlocks hG hL (by rw [csx]; rfl) (congrArg (fun z => some (Value.int z)) (by rw [csx]; rfl)) (congr (congrArg (kJ ce0 ad K.2.2.1 cI cB cO cR) (by rfl)) (by rfl)) dX1_told_100 (Nat.le_of_ble_eq_true rfl) (Nat.le_of_ble_eq_true rfl)
    ·
      refine lv_tableIn (tgt := 101) (off := 100) hx hb dX1_told_1 (by rw [csx]; decide) (by rw [csx]; decide) (by rw [csx]; rfl) (by decide) ?_
      refine lv_aload_n hx hb dX1_told_101 rfl (lv_at hl 0 rfl) ?_
      refine k_gi (C := RX1) (T := TX1) (N := 11) (ci := 2) (v := r 51 i) S hG (fun w h => List.mem_cons_of_mem _ (List.mem_append_left _ (List.mem_append_right _ h))) (4000 + i) (hlv.ca hi) (kJ_ca hi9) rfl 10 (by decide) rfl (hts (.fieldLink RX1 37 "SwarmLine$Case" "swarm" "I") (by decide +kernel)) rfl (rfl) dX1_told_102 ?_
      exact x_iret S.1 hr hlocks hG hL (by rw [csx]; rfl) (congrArg (fun z => some (Value.int z)) (by rw [csx]; rfl)) (congr (congrArg (kJ ce0 ad K.2.2.1 cI cB cO cR) (by rfl)) (by rfl)) dX1_told_105 (Nat.le_of_ble_eq_true rfl) (Nat.le_of_ble_eq_true rfl)

set_option maxHeartbeats 4000000 in
set_option maxRecDepth 100000 in
theorem e_X3_told {l : Launch} {D : va_G} {cI cZ cB cO cR cJ : ClassId} {Hb : Heap} {K : kTx} {lv : Nat → Prop} {ad : Nat → Nat} {ce0 : Nat → va_E} (hst : l.stackTraces = false) (s : Nat → Int32) (r : Nat → Nat → Int32) (hlv : kL lv s) (i : Nat) (hi : i < (s 6).toNatClampNeg) (hi9 : i < 1000) (w : Int32)  : xMet l D cI cZ cB cO cR cJ Hb K lv ad ce0 yX3_told wqX3_told 6 92 1 [.ref (ad (1000 + i)), .int w] s r (xTo 4 w) (some (.int ((if w = 0 then r 9 i else if w = 1 then r 10 i else if w = 2 then r 11 i else if w = 3 then r 12 i else r 13 i)))) s r s r := by
  refine vx_ofW (cc := cX3_told) (maxL := 2) (ret := (some .int)) (by decide) rfl ?_
  intro p0 e0 s0 m0 args below meth c0 s₁ B hml hout hv
  obtain ⟨rfl, hG, hK, hE⟩ := hv
  have hx := B.exec
  have hb := B.bytes
  have hr := B.returns
  have hts := atoms_spec (ws := wqX3_told) B.pre
  have hown : s0.vm.findClass RX3 = some m0.cls := findClass_of_methodNamed B.named
  have hlocks := B.notSynchronized
  have S : kX p0 m0 c0 cX3_told 2 s0 _ wqX3_told RX3 D (tyL cI cZ cB cO cR cJ) Hb K := ⟨⟨hx, hb, hml, hown, hts⟩, hK, hE⟩
  have hL : gL Hb [] := gL.nil
  have hH := hG.2.2.2.2
  have hl := lv_entry ([.ref (ad (1000 + i)), .int w]) (n := 2) (Nat.le_of_ble_eq_true rfl)
  rw [lg_entry_eq]
  generalize (lg_sl ([.ref (ad (1000 + i)), .int w]) ++ List.replicate (2 - (lg_sl ([.ref (ad (1000 + i)), .int w])).length) Slot.unset).toArray = ls at hl ⊢
  have hl : lv_has ls 2 [(0, .ref (ad (1000 + i))), (1, .int w)] := hl
  refine lv_iload_n hx hb dX3_told_0 rfl (lv_at hl 1 rfl) ?_
  by_cases csw : w.toInt < 0 ∨ 4 < w.toInt
  ·
    refine lv_tableOut (tgt := 61) hx hb dX3_told_1 csw (by decide) ?_
    exact k_throwN (cls := "java/util/NoSuchElementException") (text := "nothing such is told of a hive") (i := 26) S hst hH hG hL (by decide +kernel) (hts (.classLink RX3 57 "java/util/NoSuchElementException") (by decide +kernel)) (hts (.initialized "java/util/NoSuchElementException") (by decide +kernel)) rfl (fun w h => List.mem_cons_of_mem _ (List.mem_append_right _ h)) (by decide +kernel) (by decide +kernel) (by decide +kernel) hl.1 dX3_told_61 dX3_told_64 dX3_told_65 dX3_told_67 dX3_told_70 hout (Nat.le_of_ble_eq_true rfl) (Nat.le_of_ble_eq_true rfl) (Nat.le_of_ble_eq_true rfl) (Nat.le_of_ble_eq_true rfl) hlocks (by show xTo 4 w = _; unfold xTo; rw [if_pos (fIn_out (hi := 4) csw)]) (congr (congrArg (kJ ce0 ad K.2.2.1 cI cB cO cR) (by rfl)) (by rfl)) (Nat.le_of_ble_eq_true rfl) (Nat.le_of_ble_eq_true rfl)
  ·
    have csx : w = 0 ∨ w = 1 ∨ w = 2 ∨ w = 3 ∨ w = 4 := by simp only [t_eq]; simp; omega
    rcases csx with csx | csx | csx | csx | csx
    ·
      refine lv_tableIn (tgt := 36) (off := 35) hx hb dX3_told_1 (by rw [csx]; decide) (by rw [csx]; decide) (by rw [csx]; rfl) (by decide) ?_
      refine lv_aload_n hx hb dX3_told_36 rfl (lv_at hl 0 rfl) ?_
      refine k_gi (C := RX3) (T := TX3) (N := 7) (ci := 4) (v := r 9 i) S hG (fun w h => List.mem_cons_of_mem _ (List.mem_append_left _ (List.mem_append_right _ h))) (1000 + i) (hlv.hv hi) (kJ_hv hi9) rfl 4 (by decide) rfl (hts (.fieldLink RX3 24 "SwarmLine$Hive" "bees" "I") (by decide +kernel)) rfl (rfl) dX3_told_37 ?_
      exact x_iret S.1 hr hlocks hG hL (by rw [csx]; rfl) (congrArg (fun z => some (Value.int z)) (by rw [csx]; rfl)) (congr (congrArg (kJ ce0 ad K.2.2.1 cI cB cO cR) (by rfl)) (by rfl)) dX3_told_40 (Nat.le_of_ble_eq_true rfl) (Nat.le_of_ble_eq_true rfl)
    ·
      refine lv_tableIn (tgt := 41) (off := 40) hx hb dX3_told_1 (by rw [csx]; decide) (by rw [csx]; decide) (by rw [csx]; rfl) (by decide) ?_
      refine lv_aload_n hx hb dX3_told_41 rfl (lv_at hl 0 rfl) ?_
      refine k_gi (C := RX3) (T := TX3) (N := 7) (ci := 4) (v := r 10 i) S hG (fun w h => List.mem_cons_of_mem _ (List.mem_append_left _ (List.mem_append_right _ h))) (1000 + i) (hlv.hv hi) (kJ_hv hi9) rfl 2 (by decide) rfl (hts (.fieldLink RX3 27 "SwarmLine$Hive" "room" "I") (by decide +kernel)) rfl (rfl) dX3_told_42 ?_
      exact x_iret S.1 hr hlocks hG hL (by rw [csx]; rfl) (congrArg (fun z => some (Value.int z)) (by rw [csx]; rfl)) (congr (congrArg (kJ ce0 ad K.2.2.1 cI cB cO cR) (by rfl)) (by rfl)) dX3_told_45 (Nat.le_of_ble_eq_true rfl) (Nat.le_of_ble_eq_true rfl)
    ·
      refine lv_tableIn (tgt := 46) (off := 45) hx hb dX3_told_1 (by rw [csx]; decide) (by rw [csx]; decide) (by rw [csx]; rfl) (by decide) ?_
      refine lv_aload_n hx hb dX3_told_46 rfl (lv_at hl 0 rfl) ?_
      refine k_gi (C := RX3) (T := TX3) (N := 7) (ci := 4) (v := r 11 i) S hG (fun w h => List.mem_cons_of_mem _ (List.mem_append_left _ (List.mem_append_right _ h))) (1000 + i) (hlv.hv hi) (kJ_hv hi9) rfl 3 (by decide) rfl (hts (.fieldLink RX3 30 "SwarmLine$Hive" "mark" "I") (by decide +kernel)) rfl (rfl) dX3_told_47 ?_
      exact x_iret S.1 hr hlocks hG hL (by rw [csx]; rfl) (congrArg (fun z => some (Value.int z)) (by rw [csx]; rfl)) (congr (congrArg (kJ ce0 ad K.2.2.1 cI cB cO cR) (by rfl)) (by rfl)) dX3_told_50 (Nat.le_of_ble_eq_true rfl) (Nat.le_of_ble_eq_true rfl)
    ·
      refine lv_tableIn (tgt := 51) (off := 50) hx hb dX3_told_1 (by rw [csx]; decide) (by rw [csx]; decide) (by rw [csx]; rfl) (by decide) ?_
      refine lv_aload_n hx hb dX3_told_51 rfl (lv_at hl 0 rfl) ?_
      refine k_gi (C := RX3) (T := TX3) (N := 7) (ci := 4) (v := r 12 i) S hG (fun w h => List.mem_cons_of_mem _ (List.mem_append_left _ (List.mem_append_right _ h))) (1000 + i) (hlv.hv hi) (kJ_hv hi9) rfl 5 (by decide) rfl (hts (.fieldLink RX3 9 "SwarmLine$Hive" "warm" "I") (by decide +kernel)) rfl (rfl) dX3_told_52 ?_
      exact x_iret S.1 hr hlocks hG hL (by rw [csx]; rfl) (congrArg (fun z => some (Value.int z)) (by rw [csx]; rfl)) (congr (congrArg (kJ ce0 ad K.2.2.1 cI cB cO cR) (by rfl)) (by rfl)) dX3_told_55 (Nat.le_of_ble_eq_true rfl) (Nat.le_of_ble_eq_true rfl)
    ·
      refine lv_tableIn (tgt := 56) (off := 55) hx hb dX3_told_1 (by rw [csx]; decide) (by rw [csx]; decide) (by rw [csx]; rfl) (by decide) ?_
      refine lv_aload_n hx hb dX3_told_56 rfl (lv_at hl 0 rfl) ?_
      refine k_gi (C := RX3) (T := TX3) (N := 7) (ci := 4) (v := r 13 i) S hG (fun w h => List.mem_cons_of_mem _ (List.mem_append_left _ (List.mem_append_right _ h))) (1000 + i) (hlv.hv hi) (kJ_hv hi9) rfl 6 (by decide) rfl (hts (.fieldLink RX3 15 "SwarmLine$Hive" "swarmedLast" "I") (by decide +kernel)) rfl (rfl) dX3_told_57 ?_
      exact x_iret S.1 hr hlocks hG hL (by rw [csx]; rfl) (congrArg (fun z => some (Value.int z)) (by rw [csx]; rfl)) (congr (congrArg (kJ ce0 ad K.2.2.1 cI cB cO cR) (by rfl)) (by rfl)) dX3_told_60 (Nat.le_of_ble_eq_true rfl) (Nat.le_of_ble_eq_true rfl)

set_option maxHeartbeats 4000000 in
set_option maxRecDepth 100000 in
theorem e_X4_told {l : Launch} {D : va_G} {cI cZ cB cO cR cJ : ClassId} {Hb : Heap} {K : kTx} {lv : Nat → Prop} {ad : Nat → Nat} {ce0 : Nat → va_E} (hst : l.stackTraces = false) (s : Nat → Int32) (r : Nat → Nat → Int32) (hlv : kL lv s) (i : Nat) (hi : i < (s 26).toNatClampNeg) (hi9 : i < 1000) (w : Int32)  : xMet l D cI cZ cB cO cR cJ Hb K lv ad ce0 yX4_told wqX4_told 6 92 1 [.ref (ad (3000 + i)), .int w] s r (xTo 4 w) (some (.int ((if w = 0 then r 34 i else if w = 1 then r 29 i else if w = 2 then r 35 i else if w = 3 then r 37 i else r 38 i)))) s r s r := by
  refine vx_ofW (cc := cX4_told) (maxL := 2) (ret := (some .int)) (by decide) rfl ?_
  intro p0 e0 s0 m0 args below meth c0 s₁ B hml hout hv
  obtain ⟨rfl, hG, hK, hE⟩ := hv
  have hx := B.exec
  have hb := B.bytes
  have hr := B.returns
  have hts := atoms_spec (ws := wqX4_told) B.pre
  have hown : s0.vm.findClass RX4 = some m0.cls := findClass_of_methodNamed B.named
  have hlocks := B.notSynchronized
  have S : kX p0 m0 c0 cX4_told 2 s0 _ wqX4_told RX4 D (tyL cI cZ cB cO cR cJ) Hb K := ⟨⟨hx, hb, hml, hown, hts⟩, hK, hE⟩
  have hL : gL Hb [] := gL.nil
  have hH := hG.2.2.2.2
  have hl := lv_entry ([.ref (ad (3000 + i)), .int w]) (n := 2) (Nat.le_of_ble_eq_true rfl)
  rw [lg_entry_eq]
  generalize (lg_sl ([.ref (ad (3000 + i)), .int w]) ++ List.replicate (2 - (lg_sl ([.ref (ad (3000 + i)), .int w])).length) Slot.unset).toArray = ls at hl ⊢
  have hl : lv_has ls 2 [(0, .ref (ad (3000 + i))), (1, .int w)] := hl
  refine lv_iload_n hx hb dX4_told_0 rfl (lv_at hl 1 rfl) ?_
  by_cases csw : w.toInt < 0 ∨ 4 < w.toInt
  ·
    refine lv_tableOut (tgt := 61) hx hb dX4_told_1 csw (by decide) ?_
    exact k_throwN (cls := "java/util/NoSuchElementException") (text := "nothing such is told of a keeper") (i := 28) S hst hH hG hL (by decide +kernel) (hts (.classLink RX4 60 "java/util/NoSuchElementException") (by decide +kernel)) (hts (.initialized "java/util/NoSuchElementException") (by decide +kernel)) rfl (fun w h => List.mem_cons_of_mem _ (List.mem_append_right _ h)) (by decide +kernel) (by decide +kernel) (by decide +kernel) hl.1 dX4_told_61 dX4_told_64 dX4_told_65 dX4_told_67 dX4_told_70 hout (Nat.le_of_ble_eq_true rfl) (Nat.le_of_ble_eq_true rfl) (Nat.le_of_ble_eq_true rfl) (Nat.le_of_ble_eq_true rfl) hlocks (by show xTo 4 w = _; unfold xTo; rw [if_pos (fIn_out (hi := 4) csw)]) (congr (congrArg (kJ ce0 ad K.2.2.1 cI cB cO cR) (by rfl)) (by rfl)) (Nat.le_of_ble_eq_true rfl) (Nat.le_of_ble_eq_true rfl)
  ·
    have csx : w = 0 ∨ w = 1 ∨ w = 2 ∨ w = 3 ∨ w = 4 := by simp only [t_eq]; simp; omega
    rcases csx with csx | csx | csx | csx | csx
    ·
      refine lv_tableIn (tgt := 36) (off := 35) hx hb dX4_told_1 (by rw [csx]; decide) (by rw [csx]; decide) (by rw [csx]; rfl) (by decide) ?_
      refine lv_aload_n hx hb dX4_told_36 rfl (lv_at hl 0 rfl) ?_
      refine k_gi (C := RX4) (T := TX4) (N := 12) (ci := 5) (v := r 34 i) S hG (fun w h => List.mem_cons_of_mem _ (List.mem_append_left _ (List.mem_append_right _ h))) (3000 + i) (hlv.kp hi) (kJ_kp hi9) rfl 7 (by decide) rfl (hts (.fieldLink RX4 9 "SwarmLine$Keeper" "state" "I") (by decide +kernel)) rfl (rfl) dX4_told_37 ?_
      exact x_iret S.1 hr hlocks hG hL (by rw [csx]; rfl) (congrArg (fun z => some (Value.int z)) (by rw [csx]; rfl)) (congr (congrArg (kJ ce0 ad K.2.2.1 cI cB cO cR) (by rfl)) (by rfl)) dX4_told_40 (Nat.le_of_ble_eq_true rfl) (Nat.le_of_ble_eq_true rfl)
    ·
      refine lv_tableIn (tgt := 41) (off := 40) hx hb dX4_told_1 (by rw [csx]; decide) (by rw [csx]; decide) (by rw [csx]; rfl) (by decide) ?_
      refine lv_aload_n hx hb dX4_told_41 rfl (lv_at hl 0 rfl) ?_
      refine k_gi (C := RX4) (T := TX4) (N := 12) (ci := 5) (v := r 29 i) S hG (fun w h => List.mem_cons_of_mem _ (List.mem_append_left _ (List.mem_append_right _ h))) (3000 + i) (hlv.kp hi) (kJ_kp hi9) rfl 6 (by decide) rfl (hts (.fieldLink RX4 33 "SwarmLine$Keeper" "boxes" "I") (by decide +kernel)) rfl (rfl) dX4_told_42 ?_
      exact x_iret S.1 hr hlocks hG hL (by rw [csx]; rfl) (congrArg (fun z => some (Value.int z)) (by rw [csx]; rfl)) (congr (congrArg (kJ ce0 ad K.2.2.1 cI cB cO cR) (by rfl)) (by rfl)) dX4_told_45 (Nat.le_of_ble_eq_true rfl) (Nat.le_of_ble_eq_true rfl)
    ·
      refine lv_tableIn (tgt := 46) (off := 45) hx hb dX4_told_1 (by rw [csx]; decide) (by rw [csx]; decide) (by rw [csx]; rfl) (by decide) ?_
      refine lv_aload_n hx hb dX4_told_46 rfl (lv_at hl 0 rfl) ?_
      refine k_gi (C := RX4) (T := TX4) (N := 12) (ci := 5) (v := r 35 i) S hG (fun w h => List.mem_cons_of_mem _ (List.mem_append_left _ (List.mem_append_right _ h))) (3000 + i) (hlv.kp hi) (kJ_kp hi9) rfl 9 (by decide) rfl (hts (.fieldLink RX4 18 "SwarmLine$Keeper" "hoursToGo" "I") (by decide +kernel)) rfl (rfl) dX4_told_47 ?_
      exact x_iret S.1 hr hlocks hG hL (by rw [csx]; rfl) (congrArg (fun z => some (Value.int z)) (by rw [csx]; rfl)) (congr (congrArg (kJ ce0 ad K.2.2.1 cI cB cO cR) (by rfl)) (by rfl)) dX4_told_50 (Nat.le_of_ble_eq_true rfl) (Nat.le_of_ble_eq_true rfl)
    ·
      refine lv_tableIn (tgt := 51) (off := 50) hx hb dX4_told_1 (by rw [csx]; decide) (by rw [csx]; decide) (by rw [csx]; rfl) (by decide) ?_
      refine lv_aload_n hx hb dX4_told_51 rfl (lv_at hl 0 rfl) ?_
      refine k_gi (C := RX4) (T := TX4) (N := 12) (ci := 5) (v := r 37 i) S hG (fun w h => List.mem_cons_of_mem _ (List.mem_append_left _ (List.mem_append_right _ h))) (3000 + i) (hlv.kp hi) (kJ_kp hi9) rfl 10 (by decide) rfl (hts (.fieldLink RX4 21 "SwarmLine$Keeper" "aCase" "I") (by decide +kernel)) rfl (rfl) dX4_told_52 ?_
      exact x_iret S.1 hr hlocks hG hL (by rw [csx]; rfl) (congrArg (fun z => some (Value.int z)) (by rw [csx]; rfl)) (congr (congrArg (kJ ce0 ad K.2.2.1 cI cB cO cR) (by rfl)) (by rfl)) dX4_told_55 (Nat.le_of_ble_eq_true rfl) (Nat.le_of_ble_eq_true rfl)
    ·
      refine lv_tableIn (tgt := 56) (off := 55) hx hb dX4_told_1 (by rw [csx]; decide) (by rw [csx]; decide) (by rw [csx]; rfl) (by decide) ?_
      refine lv_aload_n hx hb dX4_told_56 rfl (lv_at hl 0 rfl) ?_
      refine k_gi (C := RX4) (T := TX4) (N := 12) (ci := 5) (v := r 38 i) S hG (fun w h => List.mem_cons_of_mem _ (List.mem_append_left _ (List.mem_append_right _ h))) (3000 + i) (hlv.kp hi) (kJ_kp hi9) rfl 11 (by decide) rfl (hts (.fieldLink RX4 24 "SwarmLine$Keeper" "swarmsHad" "I") (by decide +kernel)) rfl (rfl) dX4_told_57 ?_
      exact x_iret S.1 hr hlocks hG hL (by rw [csx]; rfl) (congrArg (fun z => some (Value.int z)) (by rw [csx]; rfl)) (congr (congrArg (kJ ce0 ad K.2.2.1 cI cB cO cR) (by rfl)) (by rfl)) dX4_told_60 (Nat.le_of_ble_eq_true rfl) (Nat.le_of_ble_eq_true rfl)

set_option maxHeartbeats 4000000 in
set_option maxRecDepth 100000 in
theorem e_X6_told {l : Launch} {D : va_G} {cI cZ cB cO cR cJ : ClassId} {Hb : Heap} {K : kTx} {lv : Nat → Prop} {ad : Nat → Nat} {ce0 : Nat → va_E} (hst : l.stackTraces = false) (s : Nat → Int32) (r : Nat → Nat → Int32) (hlv : kL lv s) (i : Nat) (hi : i < (s 14).toNatClampNeg) (hi9 : i < 1000) (w : Int32)  : xMet l D cI cZ cB cO cR cJ Hb K lv ad ce0 yX6_told wqX6_told 6 92 1 [.ref (ad (2000 + i)), .int w] s r (xTo 9 w) (some (.int (tab9 w (r 15 i) (r 16 i) (r 17 i) (r 18 i) (r 19 i) (r 20 i) (r 21 i) (r 22 i) (r 23 i) (r 24 i)))) s r s r := by
  refine vx_ofW (cc := cX6_told) (maxL := 2) (ret := (some .int)) (by decide) rfl ?_
  intro p0 e0 s0 m0 args below meth c0 s₁ B hml hout hv
  obtain ⟨rfl, hG, hK, hE⟩ := hv
  have hx := B.exec
  have hb := B.bytes
  have hr := B.returns
  have hts := atoms_spec (ws := wqX6_told) B.pre
  have hown : s0.vm.findClass RX6 = some m0.cls := findClass_of_methodNamed B.named
  have hlocks := B.notSynchronized
  have S : kX p0 m0 c0 cX6_told 2 s0 _ wqX6_told RX6 D (tyL cI cZ cB cO cR cJ) Hb K := ⟨⟨hx, hb, hml, hown, hts⟩, hK, hE⟩
  have hL : gL Hb [] := gL.nil
  have hH := hG.2.2.2.2
  have hl := lv_entry ([.ref (ad (2000 + i)), .int w]) (n := 2) (Nat.le_of_ble_eq_true rfl)
  rw [lg_entry_eq]
  generalize (lg_sl ([.ref (ad (2000 + i)), .int w]) ++ List.replicate (2 - (lg_sl ([.ref (ad (2000 + i)), .int w])).length) Slot.unset).toArray = ls at hl ⊢
  have hl : lv_has ls 2 [(0, .ref (ad (2000 + i))), (1, .int w)] := hl
  refine lv_iload_n hx hb dX6_told_0 rfl (lv_at hl 1 rfl) ?_
  by_cases csw : w.toInt < 0 ∨ 9 < w.toInt
  ·
    refine lv_tableOut (tgt := 106) hx hb dX6_told_1 csw (by decide) ?_
    exact k_throwN (cls := "java/util/NoSuchElementException") (text := "nothing such is told of a swarm") (i := 27) S hst hH hG hL (by decide +kernel) (hts (.classLink RX6 62 "java/util/NoSuchElementException") (by decide +kernel)) (hts (.initialized "java/util/NoSuchElementException") (by decide +kernel)) rfl (fun w h => List.mem_cons_of_mem _ (List.mem_append_right _ h)) (by decide +kernel) (by decide +kernel) (by decide +kernel) hl.1 dX6_told_106 dX6_told_109 dX6_told_110 dX6_told_112 dX6_told_115 hout (Nat.le_of_ble_eq_true rfl) (Nat.le_of_ble_eq_true rfl) (Nat.le_of_ble_eq_true rfl) (Nat.le_of_ble_eq_true rfl) hlocks (by show xTo 9 w = _; unfold xTo; rw [if_pos (fIn_out (hi := 9) csw)]) (congr (congrArg (kJ ce0 ad K.2.2.1 cI cB cO cR) (by rfl)) (by rfl)) (Nat.le_of_ble_eq_true rfl) (Nat.le_of_ble_eq_true rfl)
  ·
    have csx : w = 0 ∨ w = 1 ∨ w = 2 ∨ w = 3 ∨ w = 4 ∨ w = 5 ∨ w = 6 ∨ w = 7 ∨ w = 8 ∨ w = 9 := by simp only [t_eq]; simp; omega
    rcases csx with csx | csx | csx | csx | csx | csx | csx | csx | csx | csx
    ·
      refine lv_tableIn (tgt := 56) (off := 55) hx hb dX6_told_1 (by rw [csx]; decide) (by rw [csx]; decide) (by rw [csx]; rfl) (by decide) ?_
      refine lv_aload_n hx hb dX6_told_56 rfl (lv_at hl 0 rfl) ?_
      refine k_gi (C := RX6) (T := TX6) (N := 11) (ci := 7) (v := r 15 i) S hG (fun w h => List.mem_cons_of_mem _ (List.mem_append_left _ (List.mem_append_right _ h))) (2000 + i) (hlv.sw hi) (kJ_sw hi9) rfl 7 (by decide) rfl (hts (.fieldLink RX6 15 "SwarmLine$Swarm" "state" "I") (by decide +kernel)) rfl (rfl) dX6_told_57 ?_
      exact x_iret S.1 hr hlocks hG hL (by rw [csx]; rfl) (congrArg (fun z => some (Value.int z)) (by rw [csx]; rfl)) (congr (congrArg (kJ ce0 ad K.2.2.1 cI cB cO cR) (by rfl)) (by rfl)) dX6_told_60 (Nat.le_of_ble_eq_true rfl) (Nat.le_of_ble_eq_true rfl)
    ·
      refine lv_tableIn (tgt := 61) (off := 60) hx hb dX6_told_1 (by rw [csx]; decide) (by rw [csx]; decide) (by rw [csx]; rfl) (by decide) ?_
      refine lv_aload_n hx hb dX6_told_61 rfl (lv_at hl 0 rfl) ?_
      refine k_gi (C := RX6) (T := TX6) (N := 11) (ci := 7) (v := r 16 i) S hG (fun w h => List.mem_cons_of_mem _ (List.mem_append_left _ (List.mem_append_right _ h))) (2000 + i) (hlv.sw hi) (kJ_sw hi9) rfl 0 (by decide) rfl (hts (.fieldLink RX6 27 "SwarmLine$Swarm" "hive" "I") (by decide +kernel)) rfl (rfl) dX6_told_62 ?_
      exact x_iret S.1 hr hlocks hG hL (by rw [csx]; rfl) (congrArg (fun z => some (Value.int z)) (by rw [csx]; rfl)) (congr (congrArg (kJ ce0 ad K.2.2.1 cI cB cO cR) (by rfl)) (by rfl)) dX6_told_65 (Nat.le_of_ble_eq_true rfl) (Nat.le_of_ble_eq_true rfl)
    ·
      refine lv_tableIn (tgt := 66) (off := 65) hx hb dX6_told_1 (by rw [csx]; decide) (by rw [csx]; decide) (by rw [csx]; rfl) (by decide) ?_
      refine lv_aload_n hx hb dX6_told_66 rfl (lv_at hl 0 rfl) ?_
      refine k_gi (C := RX6) (T := TX6) (N := 11) (ci := 7) (v := r 17 i) S hG (fun w h => List.mem_cons_of_mem _ (List.mem_append_left _ (List.mem_append_right _ h))) (2000 + i) (hlv.sw hi) (kJ_sw hi9) rfl 1 (by decide) rfl (hts (.fieldLink RX6 35 "SwarmLine$Swarm" "bees" "I") (by decide +kernel)) rfl (rfl) dX6_told_67 ?_
      exact x_iret S.1 hr hlocks hG hL (by rw [csx]; rfl) (congrArg (fun z => some (Value.int z)) (by rw [csx]; rfl)) (congr (congrArg (kJ ce0 ad K.2.2.1 cI cB cO cR) (by rfl)) (by rfl)) dX6_told_70 (Nat.le_of_ble_eq_true rfl) (Nat.le_of_ble_eq_true rfl)
    ·
      refine lv_tableIn (tgt := 71) (off := 70) hx hb dX6_told_1 (by rw [csx]; decide) (by rw [csx]; decide) (by rw [csx]; rfl) (by decide) ?_
      refine lv_aload_n hx hb dX6_told_71 rfl (lv_at hl 0 rfl) ?_
      refine k_gi (C := RX6) (T := TX6) (N := 11) (ci := 7) (v := r 18 i) S hG (fun w h => List.mem_cons_of_mem _ (List.mem_append_left _ (List.mem_append_right _ h))) (2000 + i) (hlv.sw hi) (kJ_sw hi9) rfl 2 (by decide) rfl (hts (.fieldLink RX6 43 "SwarmLine$Swarm" "x" "I") (by decide +kernel)) rfl (rfl) dX6_told_72 ?_
      exact x_iret S.1 hr hlocks hG hL (by rw [csx]; rfl) (congrArg (fun z => some (Value.int z)) (by rw [csx]; rfl)) (congr (congrArg (kJ ce0 ad K.2.2.1 cI cB cO cR) (by rfl)) (by rfl)) dX6_told_75 (Nat.le_of_ble_eq_true rfl) (Nat.le_of_ble_eq_true rfl)
    ·
      refine lv_tableIn (tgt := 76) (off := 75) hx hb dX6_told_1 (by rw [csx]; decide) (by rw [csx]; decide) (by rw [csx]; rfl) (by decide) ?_
      refine lv_aload_n hx hb dX6_told_76 rfl (lv_at hl 0 rfl) ?_
      refine k_gi (C := RX6) (T := TX6) (N := 11) (ci := 7) (v := r 19 i) S hG (fun w h => List.mem_cons_of_mem _ (List.mem_append_left _ (List.mem_append_right _ h))) (2000 + i) (hlv.sw hi) (kJ_sw hi9) rfl 3 (by decide) rfl (hts (.fieldLink RX6 47 "SwarmLine$Swarm" "y" "I") (by decide +kernel)) rfl (rfl) dX6_told_77 ?_
      exact x_iret S.1 hr hlocks hG hL (by rw [csx]; rfl) (congrArg (fun z => some (Value.int z)) (by rw [csx]; rfl)) (congr (congrArg (kJ ce0 ad K.2.2.1 cI cB cO cR) (by rfl)) (by rfl)) dX6_told_80 (Nat.le_of_ble_eq_true rfl) (Nat.le_of_ble_eq_true rfl)
    ·
      refine lv_tableIn (tgt := 81) (off := 80) hx hb dX6_told_1 (by rw [csx]; decide) (by rw [csx]; decide) (by rw [csx]; rfl) (by decide) ?_
      refine lv_aload_n hx hb dX6_told_81 rfl (lv_at hl 0 rfl) ?_
      refine k_gi (C := RX6) (T := TX6) (N := 11) (ci := 7) (v := r 20 i) S hG (fun w h => List.mem_cons_of_mem _ (List.mem_append_left _ (List.mem_append_right _ h))) (2000 + i) (hlv.sw hi) (kJ_sw hi9) rfl 4 (by decide) rfl (hts (.fieldLink RX6 48 "SwarmLine$Swarm" "height" "I") (by decide +kernel)) rfl (rfl) dX6_told_82 ?_
      exact x_iret S.1 hr hlocks hG hL (by rw [csx]; rfl) (congrArg (fun z => some (Value.int z)) (by rw [csx]; rfl)) (congr (congrArg (kJ ce0 ad K.2.2.1 cI cB cO cR) (by rfl)) (by rfl)) dX6_told_85 (Nat.le_of_ble_eq_true rfl) (Nat.le_of_ble_eq_true rfl)
    ·
      refine lv_tableIn (tgt := 86) (off := 85) hx hb dX6_told_1 (by rw [csx]; decide) (by rw [csx]; decide) (by rw [csx]; rfl) (by decide) ?_
      refine lv_aload_n hx hb dX6_told_86 rfl (lv_at hl 0 rfl) ?_
      refine k_gi (C := RX6) (T := TX6) (N := 11) (ci := 7) (v := r 21 i) S hG (fun w h => List.mem_cons_of_mem _ (List.mem_append_left _ (List.mem_append_right _ h))) (2000 + i) (hlv.sw hi) (kJ_sw hi9) rfl 5 (by decide) rfl (hts (.fieldLink RX6 51 "SwarmLine$Swarm" "leftAt" "I") (by decide +kernel)) rfl (rfl) dX6_told_87 ?_
      exact x_iret S.1 hr hlocks hG hL (by rw [csx]; rfl) (congrArg (fun z => some (Value.int z)) (by rw [csx]; rfl)) (congr (congrArg (kJ ce0 ad K.2.2.1 cI cB cO cR) (by rfl)) (by rfl)) dX6_told_90 (Nat.le_of_ble_eq_true rfl) (Nat.le_of_ble_eq_true rfl)
    ·
      refine lv_tableIn (tgt := 91) (off := 90) hx hb dX6_told_1 (by rw [csx]; decide) (by rw [csx]; decide) (by rw [csx]; rfl) (by decide) ?_
      refine lv_aload_n hx hb dX6_told_91 rfl (lv_at hl 0 rfl) ?_
      refine k_gi (C := RX6) (T := TX6) (N := 11) (ci := 7) (v := r 22 i) S hG (fun w h => List.mem_cons_of_mem _ (List.mem_append_left _ (List.mem_append_right _ h))) (2000 + i) (hlv.sw hi) (kJ_sw hi9) rfl 6 (by decide) rfl (hts (.fieldLink RX6 9 "SwarmLine$Swarm" "patience" "I") (by decide +kernel)) rfl (rfl) dX6_told_92 ?_
      exact x_iret S.1 hr hlocks hG hL (by rw [csx]; rfl) (congrArg (fun z => some (Value.int z)) (by rw [csx]; rfl)) (congr (congrArg (kJ ce0 ad K.2.2.1 cI cB cO cR) (by rfl)) (by rfl)) dX6_told_95 (Nat.le_of_ble_eq_true rfl) (Nat.le_of_ble_eq_true rfl)
    ·
      refine lv_tableIn (tgt := 96) (off := 95) hx hb dX6_told_1 (by rw [csx]; decide) (by rw [csx]; decide) (by rw [csx]; rfl) (by decide) ?_
      refine lv_aload_n hx hb dX6_told_96 rfl (lv_at hl 0 rfl) ?_
      refine k_gi (C := RX6) (T := TX6) (N := 11) (ci := 7) (v := r 23 i) S hG (fun w h => List.mem_cons_of_mem _ (List.mem_append_left _ (List.mem_append_right _ h))) (2000 + i) (hlv.sw hi) (kJ_sw hi9) rfl 8 (by decide) rfl (hts (.fieldLink RX6 18 "SwarmLine$Swarm" "keeper" "I") (by decide +kernel)) rfl (rfl) dX6_told_97 ?_
      exact x_iret S.1 hr hlocks hG hL (by rw [csx]; rfl) (congrArg (fun z => some (Value.int z)) (by rw [csx]; rfl)) (congr (congrArg (kJ ce0 ad K.2.2.1 cI cB cO cR) (by rfl)) (by rfl)) dX6_told_100 (Nat.le_of_ble_eq_true rfl) (Nat.le_of_ble_eq_true rfl)
    ·
      refine lv_tableIn (tgt := 101) (off := 100) hx hb dX6_told_1 (by rw [csx]; decide) (by rw [csx]; decide) (by rw [csx]; rfl) (by decide) ?_
      refine lv_aload_n hx hb dX6_told_101 rfl (lv_at hl 0 rfl) ?_
      refine k_gi (C := RX6) (T := TX6) (N := 11) (ci := 7) (v := r 24 i) S hG (fun w h => List.mem_cons_of_mem _ (List.mem_append_left _ (List.mem_append_right _ h))) (2000 + i) (hlv.sw hi) (kJ_sw hi9) rfl 10 (by decide) rfl (hts (.fieldLink RX6 24 "SwarmLine$Swarm" "ended" "I") (by decide +kernel)) rfl (rfl) dX6_told_102 ?_
      exact x_iret S.1 hr hlocks hG hL (by rw [csx]; rfl) (congrArg (fun z => some (Value.int z)) (by rw [csx]; rfl)) (congr (congrArg (kJ ce0 ad K.2.2.1 cI cB cO cR) (by rfl)) (by rfl)) dX6_told_105 (Nat.le_of_ble_eq_true rfl) (Nat.le_of_ble_eq_true rfl)

set_option maxHeartbeats 4000000 in
set_option maxRecDepth 100000 in
theorem e_X9_look {l : Launch} {D : va_G} {cI cZ cB cO cR cJ : ClassId} {Hb : Heap} {K : kTx} {lv : Nat → Prop} {ad : Nat → Nat} {ce0 : Nat → va_E} (hst : l.stackTraces = false) (s : Nat → Int32) (r : Nat → Nat → Int32) (hlv : kL lv s) (k : Int32) (w : Int32) (hb9 : (s 6).toInt ≤ 60) : xMet l D cI cZ cB cO cR cJ Hb K lv ad ce0 yX9_look wqX9_look 7 113 1 [.ref (ad 100), .int k, .int w] s r (xLk (s 6) k 4 w) (some (.int ((if w = 0 then r 9 (Int32.toNatClampNeg k) else if w = 1 then r 10 (Int32.toNatClampNeg k) else if w = 2 then r 11 (Int32.toNatClampNeg k) else if w = 3 then r 12 (Int32.toNatClampNeg k) else r 13 (Int32.toNatClampNeg k))))) s r s r := by
  refine vx_ofW (cc := cX9_look) (maxL := 3) (ret := (some .int)) (by decide) rfl ?_
  intro p0 e0 s0 m0 args below meth c0 s₁ B hml hout hv
  obtain ⟨rfl, hG, hK, hE⟩ := hv
  have hx := B.exec
  have hb := B.bytes
  have hr := B.returns
  have hts := atoms_spec (ws := wqX9_look) B.pre
  have hown : s0.vm.findClass RX9 = some m0.cls := findClass_of_methodNamed B.named
  have hlocks := B.notSynchronized
  have S : kX p0 m0 c0 cX9_look 3 s0 _ wqX9_look RX9 D (tyL cI cZ cB cO cR cJ) Hb K := ⟨⟨hx, hb, hml, hown, hts⟩, hK, hE⟩
  have hL : gL Hb [] := gL.nil
  have hH := hG.2.2.2.2
  have hl := lv_entry ([.ref (ad 100), .int k, .int w]) (n := 3) (Nat.le_of_ble_eq_true rfl)
  rw [lg_entry_eq]
  generalize (lg_sl ([.ref (ad 100), .int k, .int w]) ++ List.replicate (3 - (lg_sl ([.ref (ad 100), .int k, .int w])).length) Slot.unset).toArray = ls at hl ⊢
  have hl : lv_has ls 3 [(0, .ref (ad 100)), (1, .int k), (2, .int w)] := hl
  refine lv_iload_n hx hb dX9_look_0 rfl (lv_at hl 1 rfl) ?_
  refine lv_if_lt (tgt := 15) hx hb dX9_look_1 (by decide) (fun c1 => ?_) (fun c1 => ?_)
  ·
    exact k_throwW (cls := "java/lang/IndexOutOfBoundsException") (text := "no such hive") (i := 25) S hst hH hG hL (by decide +kernel) (hts (.classLink RX9 94 "java/lang/IndexOutOfBoundsException") (by decide +kernel)) (hts (.initialized "java/lang/IndexOutOfBoundsException") (by decide +kernel)) rfl (fun w h => List.mem_cons_of_mem _ (List.mem_append_left _ (List.mem_append_right _ h))) (by decide +kernel) (by decide +kernel) (by decide +kernel) hl.1 dX9_look_15 dX9_look_18 dX9_look_19 dX9_look_22 dX9_look_25 hout (Nat.le_of_ble_eq_true rfl) (Nat.le_of_ble_eq_true rfl) (Nat.le_of_ble_eq_true rfl) (Nat.le_of_ble_eq_true rfl) hlocks (by unfold xLk; rw [if_pos (fIs_n c1)]) (congr (congrArg (kJ ce0 ad K.2.2.1 cI cB cO cR) (by rfl)) (by rfl)) (Nat.le_of_ble_eq_true rfl) (Nat.le_of_ble_eq_true rfl)
  ·
    refine lv_iload_n hx hb dX9_look_4 rfl (lv_at hl 1 rfl) ?_
    refine lv_aload_n hx hb dX9_look_5 rfl (lv_at hl 0 rfl) ?_
    refine k_ga (C := RX9) (T := TX9) (N := 14) (ci := 10) (v := .ref (ad 105)) S hG (fun w h => List.mem_cons_of_mem _ (List.mem_append_left _ (List.mem_append_left _ (List.mem_append_left _ (List.mem_append_left _ (List.mem_append_right _ h)))))) 100 (hlv.f (by decide) (by decide)) rfl rfl 4 (by decide) rfl (hts (.fieldLink RX9 40 "SwarmLine" "hives" "Ljava/util/ArrayList;") (by decide +kernel)) rfl dX9_look_6 ?_
    refine k_callV (n := 0) (As := []) (rest := [.int k]) (st1 := .int (s 6) :: [.int k]) (k := 105) (ci := 0) S hG hL (hlv.f (by decide) (by decide)) rfl rfl (c_size0 s r hlv   ) qX9_look_Jx4a65c_size_8abf5 rfl ⟨rfl, rfl⟩ (by decide +kernel) ⟨Nat.le_of_ble_eq_true rfl, Nat.le_of_ble_eq_true rfl⟩ rfl hl.1 rfl (Nat.le_of_ble_eq_true rfl) dX9_look_9 ⟨Nat.le_of_ble_eq_true rfl, Nat.le_of_ble_eq_true rfl⟩ (rfl) (fun H locs hG hL => ?_)
    refine lv_icmp_lt (tgt := 26) hx hb dX9_look_12 (by decide) (fun c12 => ?_) (fun c12 => ?_)
    ·
      refine lv_aload_n hx hb dX9_look_26 rfl (lv_at hl 0 rfl) ?_
      refine k_ga (C := RX9) (T := TX9) (N := 14) (ci := 10) (v := .ref (ad 105)) S hG (fun w h => List.mem_cons_of_mem _ (List.mem_append_left _ (List.mem_append_left _ (List.mem_append_left _ (List.mem_append_left _ (List.mem_append_right _ h)))))) 100 (hlv.f (by decide) (by decide)) rfl rfl 4 (by decide) rfl (hts (.fieldLink RX9 40 "SwarmLine" "hives" "Ljava/util/ArrayList;") (by decide +kernel)) rfl dX9_look_27 ?_
      refine lv_iload_n hx hb dX9_look_30 rfl (lv_at hl 1 rfl) ?_
      refine k_callV (n := 1) (As := [.int k]) (rest := []) (st1 := .ref (ad (1000 + Int32.toNatClampNeg k)) :: []) (k := 105) (ci := 0) S hG hL (hlv.f (by decide) (by decide)) rfl rfl (c_get0 s r hlv  k ((fIs_t c1 c12).2.1) ((fIs_t c1 c12).2.2) (hb9)) qX9_look_Jx4a65c_get_915e3 rfl ⟨rfl, rfl⟩ (by decide +kernel) ⟨Nat.le_of_ble_eq_true rfl, Nat.le_of_ble_eq_true rfl⟩ rfl hl.1 rfl (Nat.le_of_ble_eq_true rfl) dX9_look_31 ⟨Nat.le_of_ble_eq_true rfl, Nat.le_of_ble_eq_true rfl⟩ (rfl) (fun H locs hG hL => ?_)
      refine k_cast (C := RX3) (T := TX3) (N := 7) (ci := 4) S hG (1000 + Int32.toNatClampNeg k) (hlv.hv (ix_lt (fIs_t c1 c12).2.1 (fIs_t c1 c12).2.2)) (kJ_hv (ix_le (fIs_t c1 c12).2.1 (by have := (fIs_t c1 c12).2.2; omega))) rfl (hts (.classLink RX9 151 "SwarmLine$Hive") (by decide +kernel)) dX9_look_34 ?_
      refine lv_iload_n hx hb dX9_look_37 rfl (lv_at hl 2 rfl) ?_
      refine x_callV (n := 1) (As := [.int w]) (rest := []) (st1 := .int (if w = 0 then r 9 (Int32.toNatClampNeg k) else if w = 1 then r 10 (Int32.toNatClampNeg k) else if w = 2 then r 11 (Int32.toNatClampNeg k) else if w = 3 then r 12 (Int32.toNatClampNeg k) else r 13 (Int32.toNatClampNeg k)) :: []) (k := 1000 + Int32.toNatClampNeg k) (ci := 4) S hG hL (hlv.hv (ix_lt (fIs_t c1 c12).2.1 (fIs_t c1 c12).2.2)) (kJ_hv (ix_le (fIs_t c1 c12).2.1 (by have := (fIs_t c1 c12).2.2; omega))) rfl (e_X3_told hst s r hlv (Int32.toNatClampNeg k) (ix_lt (fIs_t c1 c12).2.1 (fIs_t c1 c12).2.2) (ix_le (fIs_t c1 c12).2.1 (by have := (fIs_t c1 c12).2.2; omega)) w ) qX9_look_X3_told rfl ⟨rfl, rfl⟩ (by decide +kernel) ⟨Nat.le_of_ble_eq_true rfl, Nat.le_of_ble_eq_true rfl⟩ rfl hl.1 rfl (Nat.le_of_ble_eq_true rfl) dX9_look_38 ⟨Nat.le_of_ble_eq_true rfl, Nat.le_of_ble_eq_true rfl⟩ hout hlocks (fun E9 h9 => ⟨by unfold xLk; rw [if_neg (fIs_t c1 c12).1]; exact h9, rfl⟩) ⟨Nat.le_of_ble_eq_true rfl, Nat.le_of_ble_eq_true rfl⟩ (rfl) (fun ht38 H locs hG hL => ?_)
      exact x_iret S.1 hr hlocks hG hL (by unfold xLk; rw [if_neg (fIs_t c1 c12).1]; exact ht38) (congrArg (fun z => some (Value.int z)) (by rfl)) (congr (congrArg (kJ ce0 ad K.2.2.1 cI cB cO cR) (by rfl)) (by rfl)) dX9_look_41 (Nat.le_of_ble_eq_true rfl) (Nat.le_of_ble_eq_true rfl)
    ·
      exact k_throwW (cls := "java/lang/IndexOutOfBoundsException") (text := "no such hive") (i := 25) S hst hH hG hL (by decide +kernel) (hts (.classLink RX9 94 "java/lang/IndexOutOfBoundsException") (by decide +kernel)) (hts (.initialized "java/lang/IndexOutOfBoundsException") (by decide +kernel)) rfl (fun w h => List.mem_cons_of_mem _ (List.mem_append_left _ (List.mem_append_right _ h))) (by decide +kernel) (by decide +kernel) (by decide +kernel) hl.1 dX9_look_15 dX9_look_18 dX9_look_19 dX9_look_22 dX9_look_25 hout (Nat.le_of_ble_eq_true rfl) (Nat.le_of_ble_eq_true rfl) (Nat.le_of_ble_eq_true rfl) (Nat.le_of_ble_eq_true rfl) hlocks (by unfold xLk; rw [if_pos (fIs_f c12)]) (congr (congrArg (kJ ce0 ad K.2.2.1 cI cB cO cR) (by rfl)) (by rfl)) (Nat.le_of_ble_eq_true rfl) (Nat.le_of_ble_eq_true rfl)

set_option maxHeartbeats 4000000 in
set_option maxRecDepth 100000 in
theorem e_X9_swarm {l : Launch} {D : va_G} {cI cZ cB cO cR cJ : ClassId} {Hb : Heap} {K : kTx} {lv : Nat → Prop} {ad : Nat → Nat} {ce0 : Nat → va_E} (hst : l.stackTraces = false) (s : Nat → Int32) (r : Nat → Nat → Int32) (hlv : kL lv s) (k : Int32) (w : Int32) (hb9 : (s 14).toInt ≤ 60) : xMet l D cI cZ cB cO cR cJ Hb K lv ad ce0 yX9_swarm wqX9_swarm 7 113 2 [.ref (ad 100), .int k, .int w] s r (xLk (s 14) k 9 w) (some (.int (tab9 w (r 15 (Int32.toNatClampNeg k)) (r 16 (Int32.toNatClampNeg k)) (r 17 (Int32.toNatClampNeg k)) (r 18 (Int32.toNatClampNeg k)) (r 19 (Int32.toNatClampNeg k)) (r 20 (Int32.toNatClampNeg k)) (r 21 (Int32.toNatClampNeg k)) (r 22 (Int32.toNatClampNeg k)) (r 23 (Int32.toNatClampNeg k)) (r 24 (Int32.toNatClampNeg k))))) s r s r := by
  refine vx_ofW (cc := cX9_swarm) (maxL := 3) (ret := (some .int)) (by decide) rfl ?_
  intro p0 e0 s0 m0 args below meth c0 s₁ B hml hout hv
  obtain ⟨rfl, hG, hK, hE⟩ := hv
  have hx := B.exec
  have hb := B.bytes
  have hr := B.returns
  have hts := atoms_spec (ws := wqX9_swarm) B.pre
  have hown : s0.vm.findClass RX9 = some m0.cls := findClass_of_methodNamed B.named
  have hlocks := B.notSynchronized
  have S : kX p0 m0 c0 cX9_swarm 3 s0 _ wqX9_swarm RX9 D (tyL cI cZ cB cO cR cJ) Hb K := ⟨⟨hx, hb, hml, hown, hts⟩, hK, hE⟩
  have hL : gL Hb [] := gL.nil
  have hH := hG.2.2.2.2
  have hl := lv_entry ([.ref (ad 100), .int k, .int w]) (n := 3) (Nat.le_of_ble_eq_true rfl)
  rw [lg_entry_eq]
  generalize (lg_sl ([.ref (ad 100), .int k, .int w]) ++ List.replicate (3 - (lg_sl ([.ref (ad 100), .int k, .int w])).length) Slot.unset).toArray = ls at hl ⊢
  have hl : lv_has ls 3 [(0, .ref (ad 100)), (1, .int k), (2, .int w)] := hl
  refine lv_aload_n hx hb dX9_swarm_0 rfl (lv_at hl 0 rfl) ?_
  refine lv_iload_n hx hb dX9_swarm_1 rfl (lv_at hl 1 rfl) ?_
  refine x_callV (n := 1) (As := [.int k]) (rest := []) (st1 := .ref (ad (2000 + Int32.toNatClampNeg k)) :: []) (k := 100) (ci := 10) S hG hL (hlv.f (by decide) (by decide)) rfl rfl (c_X9_swarmNumbered hst s r hlv  k (hb9)) qX9_swarm_X9_swarmNumbered rfl ⟨rfl, rfl⟩ (by decide +kernel) ⟨Nat.le_of_ble_eq_true rfl, Nat.le_of_ble_eq_true rfl⟩ rfl hl.1 rfl (Nat.le_of_ble_eq_true rfl) dX9_swarm_2 ⟨Nat.le_of_ble_eq_true rfl, Nat.le_of_ble_eq_true rfl⟩ hout hlocks (fun E9 h9 => ⟨by simp only [xNm, xLk] at h9 ⊢; split at h9 <;> simp_all, rfl⟩) ⟨Nat.le_of_ble_eq_true rfl, Nat.le_of_ble_eq_true rfl⟩ (rfl) (fun ht2 H locs hG hL => ?_)
  refine lv_iload_n hx hb dX9_swarm_5 rfl (lv_at hl 2 rfl) ?_
  refine x_callV (n := 1) (As := [.int w]) (rest := []) (st1 := .int (tab9 w (r 15 (Int32.toNatClampNeg k)) (r 16 (Int32.toNatClampNeg k)) (r 17 (Int32.toNatClampNeg k)) (r 18 (Int32.toNatClampNeg k)) (r 19 (Int32.toNatClampNeg k)) (r 20 (Int32.toNatClampNeg k)) (r 21 (Int32.toNatClampNeg k)) (r 22 (Int32.toNatClampNeg k)) (r 23 (Int32.toNatClampNeg k)) (r 24 (Int32.toNatClampNeg k))) :: []) (k := 2000 + Int32.toNatClampNeg k) (ci := 7) S hG hL (hlv.sw (xNm_lt ht2)) (kJ_sw (xNm_9 ht2 hb9)) rfl (e_X6_told hst s r hlv (Int32.toNatClampNeg k) (xNm_lt ht2) (xNm_9 ht2 hb9) w ) qX9_swarm_X6_told rfl ⟨rfl, rfl⟩ (by decide +kernel) ⟨Nat.le_of_ble_eq_true rfl, Nat.le_of_ble_eq_true rfl⟩ rfl hl.1 rfl (Nat.le_of_ble_eq_true rfl) dX9_swarm_6 ⟨Nat.le_of_ble_eq_true rfl, Nat.le_of_ble_eq_true rfl⟩ hout hlocks (fun E9 h9 => ⟨by unfold xLk; rw [if_neg (xNm_n ht2)]; exact h9, rfl⟩) ⟨Nat.le_of_ble_eq_true rfl, Nat.le_of_ble_eq_true rfl⟩ (rfl) (fun ht6 H locs hG hL => ?_)
  exact x_iret S.1 hr hlocks hG hL (by unfold xLk; rw [if_neg (xNm_n ht2)]; exact ht6) (congrArg (fun z => some (Value.int z)) (by rfl)) (congr (congrArg (kJ ce0 ad K.2.2.1 cI cB cO cR) (by rfl)) (by rfl)) dX9_swarm_9 (Nat.le_of_ble_eq_true rfl) (Nat.le_of_ble_eq_true rfl)

set_option maxHeartbeats 4000000 in
set_option maxRecDepth 100000 in
theorem e_X9_crew {l : Launch} {D : va_G} {cI cZ cB cO cR cJ : ClassId} {Hb : Heap} {K : kTx} {lv : Nat → Prop} {ad : Nat → Nat} {ce0 : Nat → va_E} (hst : l.stackTraces = false) (s : Nat → Int32) (r : Nat → Nat → Int32) (hlv : kL lv s) (k : Int32) (w : Int32) (hb9 : (s 26).toInt ≤ 60) : xMet l D cI cZ cB cO cR cJ Hb K lv ad ce0 yX9_crew wqX9_crew 7 113 2 [.ref (ad 100), .int k, .int w] s r (xLk (s 26) k 4 w) (some (.int ((if w = 0 then r 34 (Int32.toNatClampNeg k) else if w = 1 then r 29 (Int32.toNatClampNeg k) else if w = 2 then r 35 (Int32.toNatClampNeg k) else if w = 3 then r 37 (Int32.toNatClampNeg k) else r 38 (Int32.toNatClampNeg k))))) s r s r := by
  refine vx_ofW (cc := cX9_crew) (maxL := 3) (ret := (some .int)) (by decide) rfl ?_
  intro p0 e0 s0 m0 args below meth c0 s₁ B hml hout hv
  obtain ⟨rfl, hG, hK, hE⟩ := hv
  have hx := B.exec
  have hb := B.bytes
  have hr := B.returns
  have hts := atoms_spec (ws := wqX9_crew) B.pre
  have hown : s0.vm.findClass RX9 = some m0.cls := findClass_of_methodNamed B.named
  have hlocks := B.notSynchronized
  have S : kX p0 m0 c0 cX9_crew 3 s0 _ wqX9_crew RX9 D (tyL cI cZ cB cO cR cJ) Hb K := ⟨⟨hx, hb, hml, hown, hts⟩, hK, hE⟩
  have hL : gL Hb [] := gL.nil
  have hH := hG.2.2.2.2
  have hl := lv_entry ([.ref (ad 100), .int k, .int w]) (n := 3) (Nat.le_of_ble_eq_true rfl)
  rw [lg_entry_eq]
  generalize (lg_sl ([.ref (ad 100), .int k, .int w]) ++ List.replicate (3 - (lg_sl ([.ref (ad 100), .int k, .int w])).length) Slot.unset).toArray = ls at hl ⊢
  have hl : lv_has ls 3 [(0, .ref (ad 100)), (1, .int k), (2, .int w)] := hl
  refine lv_aload_n hx hb dX9_crew_0 rfl (lv_at hl 0 rfl) ?_
  refine lv_iload_n hx hb dX9_crew_1 rfl (lv_at hl 1 rfl) ?_
  refine x_callV (n := 1) (As := [.int k]) (rest := []) (st1 := .ref (ad (3000 + Int32.toNatClampNeg k)) :: []) (k := 100) (ci := 10) S hG hL (hlv.f (by decide) (by decide)) rfl rfl (c_X9_keeperNumbered hst s r hlv  k (hb9)) qX9_crew_X9_keeperNumbered rfl ⟨rfl, rfl⟩ (by decide +kernel) ⟨Nat.le_of_ble_eq_true rfl, Nat.le_of_ble_eq_true rfl⟩ rfl hl.1 rfl (Nat.le_of_ble_eq_true rfl) dX9_crew_2 ⟨Nat.le_of_ble_eq_true rfl, Nat.le_of_ble_eq_true rfl⟩ hout hlocks (fun E9 h9 => ⟨by simp only [xNm, xLk] at h9 ⊢; split at h9 <;> simp_all, rfl⟩) ⟨Nat.le_of_ble_eq_true rfl, Nat.le_of_ble_eq_true rfl⟩ (rfl) (fun ht2 H locs hG hL => ?_)
  refine lv_iload_n hx hb dX9_crew_5 rfl (lv_at hl 2 rfl) ?_
  refine x_callV (n := 1) (As := [.int w]) (rest := []) (st1 := .int (if w = 0 then r 34 (Int32.toNatClampNeg k) else if w = 1 then r 29 (Int32.toNatClampNeg k) else if w = 2 then r 35 (Int32.toNatClampNeg k) else if w = 3 then r 37 (Int32.toNatClampNeg k) else r 38 (Int32.toNatClampNeg k)) :: []) (k := 3000 + Int32.toNatClampNeg k) (ci := 5) S hG hL (hlv.kp (xNm_lt ht2)) (kJ_kp (xNm_9 ht2 hb9)) rfl (e_X4_told hst s r hlv (Int32.toNatClampNeg k) (xNm_lt ht2) (xNm_9 ht2 hb9) w ) qX9_crew_X4_told rfl ⟨rfl, rfl⟩ (by decide +kernel) ⟨Nat.le_of_ble_eq_true rfl, Nat.le_of_ble_eq_true rfl⟩ rfl hl.1 rfl (Nat.le_of_ble_eq_true rfl) dX9_crew_6 ⟨Nat.le_of_ble_eq_true rfl, Nat.le_of_ble_eq_true rfl⟩ hout hlocks (fun E9 h9 => ⟨by unfold xLk; rw [if_neg (xNm_n ht2)]; exact h9, rfl⟩) ⟨Nat.le_of_ble_eq_true rfl, Nat.le_of_ble_eq_true rfl⟩ (rfl) (fun ht6 H locs hG hL => ?_)
  exact x_iret S.1 hr hlocks hG hL (by unfold xLk; rw [if_neg (xNm_n ht2)]; exact ht6) (congrArg (fun z => some (Value.int z)) (by rfl)) (congr (congrArg (kJ ce0 ad K.2.2.1 cI cB cO cR) (by rfl)) (by rfl)) dX9_crew_9 (Nat.le_of_ble_eq_true rfl) (Nat.le_of_ble_eq_true rfl)

set_option maxHeartbeats 4000000 in
set_option maxRecDepth 100000 in
theorem e_X9_matter {l : Launch} {D : va_G} {cI cZ cB cO cR cJ : ClassId} {Hb : Heap} {K : kTx} {lv : Nat → Prop} {ad : Nat → Nat} {ce0 : Nat → va_E} (hst : l.stackTraces = false) (s : Nat → Int32) (r : Nat → Nat → Int32) (hlv : kL lv s) (k : Int32) (w : Int32) (hb9 : (s 39).toInt ≤ 60) : xMet l D cI cZ cB cO cR cJ Hb K lv ad ce0 yX9_matter wqX9_matter 7 113 2 [.ref (ad 100), .int k, .int w] s r (xLk (s 39) k 9 w) (some (.int (tab9 w (r 41 (Int32.toNatClampNeg k)) (r 42 (Int32.toNatClampNeg k)) (r 43 (Int32.toNatClampNeg k)) (r 45 (Int32.toNatClampNeg k)) (r 46 (Int32.toNatClampNeg k)) (r 47 (Int32.toNatClampNeg k)) (r 48 (Int32.toNatClampNeg k)) (r 49 (Int32.toNatClampNeg k)) (r 50 (Int32.toNatClampNeg k)) (r 51 (Int32.toNatClampNeg k))))) s r s r := by
  refine vx_ofW (cc := cX9_matter) (maxL := 3) (ret := (some .int)) (by decide) rfl ?_
  intro p0 e0 s0 m0 args below meth c0 s₁ B hml hout hv
  obtain ⟨rfl, hG, hK, hE⟩ := hv
  have hx := B.exec
  have hb := B.bytes
  have hr := B.returns
  have hts := atoms_spec (ws := wqX9_matter) B.pre
  have hown : s0.vm.findClass RX9 = some m0.cls := findClass_of_methodNamed B.named
  have hlocks := B.notSynchronized
  have S : kX p0 m0 c0 cX9_matter 3 s0 _ wqX9_matter RX9 D (tyL cI cZ cB cO cR cJ) Hb K := ⟨⟨hx, hb, hml, hown, hts⟩, hK, hE⟩
  have hL : gL Hb [] := gL.nil
  have hH := hG.2.2.2.2
  have hl := lv_entry ([.ref (ad 100), .int k, .int w]) (n := 3) (Nat.le_of_ble_eq_true rfl)
  rw [lg_entry_eq]
  generalize (lg_sl ([.ref (ad 100), .int k, .int w]) ++ List.replicate (3 - (lg_sl ([.ref (ad 100), .int k, .int w])).length) Slot.unset).toArray = ls at hl ⊢
  have hl : lv_has ls 3 [(0, .ref (ad 100)), (1, .int k), (2, .int w)] := hl
  refine lv_aload_n hx hb dX9_matter_0 rfl (lv_at hl 0 rfl) ?_
  refine lv_iload_n hx hb dX9_matter_1 rfl (lv_at hl 1 rfl) ?_
  refine x_callV (n := 1) (As := [.int k]) (rest := []) (st1 := .ref (ad (4000 + Int32.toNatClampNeg k)) :: []) (k := 100) (ci := 10) S hG hL (hlv.f (by decide) (by decide)) rfl rfl (c_X9_caseNumbered hst s r hlv  k (hb9)) qX9_matter_X9_caseNumbered rfl ⟨rfl, rfl⟩ (by decide +kernel) ⟨Nat.le_of_ble_eq_true rfl, Nat.le_of_ble_eq_true rfl⟩ rfl hl.1 rfl (Nat.le_of_ble_eq_true rfl) dX9_matter_2 ⟨Nat.le_of_ble_eq_true rfl, Nat.le_of_ble_eq_true rfl⟩ hout hlocks (fun E9 h9 => ⟨by simp only [xNm, xLk] at h9 ⊢; split at h9 <;> simp_all, rfl⟩) ⟨Nat.le_of_ble_eq_true rfl, Nat.le_of_ble_eq_true rfl⟩ (rfl) (fun ht2 H locs hG hL => ?_)
  refine lv_iload_n hx hb dX9_matter_5 rfl (lv_at hl 2 rfl) ?_
  refine x_callV (n := 1) (As := [.int w]) (rest := []) (st1 := .int (tab9 w (r 41 (Int32.toNatClampNeg k)) (r 42 (Int32.toNatClampNeg k)) (r 43 (Int32.toNatClampNeg k)) (r 45 (Int32.toNatClampNeg k)) (r 46 (Int32.toNatClampNeg k)) (r 47 (Int32.toNatClampNeg k)) (r 48 (Int32.toNatClampNeg k)) (r 49 (Int32.toNatClampNeg k)) (r 50 (Int32.toNatClampNeg k)) (r 51 (Int32.toNatClampNeg k))) :: []) (k := 4000 + Int32.toNatClampNeg k) (ci := 2) S hG hL (hlv.ca (xNm_lt ht2)) (kJ_ca (xNm_9 ht2 hb9)) rfl (e_X1_told hst s r hlv (Int32.toNatClampNeg k) (xNm_lt ht2) (xNm_9 ht2 hb9) w ) qX9_matter_X1_told rfl ⟨rfl, rfl⟩ (by decide +kernel) ⟨Nat.le_of_ble_eq_true rfl, Nat.le_of_ble_eq_true rfl⟩ rfl hl.1 rfl (Nat.le_of_ble_eq_true rfl) dX9_matter_6 ⟨Nat.le_of_ble_eq_true rfl, Nat.le_of_ble_eq_true rfl⟩ hout hlocks (fun E9 h9 => ⟨by unfold xLk; rw [if_neg (xNm_n ht2)]; exact h9, rfl⟩) ⟨Nat.le_of_ble_eq_true rfl, Nat.le_of_ble_eq_true rfl⟩ (rfl) (fun ht6 H locs hG hL => ?_)
  exact x_iret S.1 hr hlocks hG hL (by unfold xLk; rw [if_neg (xNm_n ht2)]; exact ht6) (congrArg (fun z => some (Value.int z)) (by rfl)) (congr (congrArg (kJ ce0 ad K.2.2.1 cI cB cO cR) (by rfl)) (by rfl)) dX9_matter_9 (Nat.le_of_ble_eq_true rfl) (Nat.le_of_ble_eq_true rfl)

