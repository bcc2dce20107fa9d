/-! methods that may throw: thr says what they throw, if they do -/
theorem gW.more {D : va_G} {Hb : Heap} {lv : Nat → Prop} {ad : Nat → Nat} {ce : Nat → va_E} {H H1 : Heap} (hG : gW D Hb lv ad ce H) (hz : H.size ≤ H1.size) (oq : ∀ q : Nat, q < H.size → H1[q]? = H[q]?) : gW D Hb lv ad ce H1 := by
  obtain ⟨h1, h2, h3, h4, h5⟩ := hG
  exact ⟨fun k hk => (h1 k hk).kept (oq _ (h1 k hk).lt), h2, h3, by omega, fun q hq => by rw [oq q (by omega)]; exact h5 q hq⟩
/-- the words of a throw that a method's own list can't hold -/
def xB (cls : String) : List Cond := [.castable cls cls, .declares (Bundle.initS "java/lang/RuntimeException"), .declares (Bundle.initS "java/lang/Exception"), .declares (Bundle.initS Bundle.tN)]
section XRW
variable {p : Program} {l : Launch} {e : Env} {R : Room} {s : State} {m : MethodId} {args : Array Value} {below : List Frame} {meth : Method} {c : Code} {H : Heap} {locs : List Loc} {cells slots : Nat} {Q : State → Prop}
variable {cc : ByteArray} {pc nL : Nat} {ls : Array Slot} {rest st0 st1 : List Value} {D : va_G} {tys : List (ClassId × FieldType)} {Hb : Heap} {K : kTx} {lv : Nat → Prop} {ad : Nat → Nat} {ce ce' ce1 ce2 : Nat → va_E} {Ts : List Cond} {own : String}
/-- how such a method ends -/
def xQ (D : va_G) (Hb : Heap) (lv : Nat → Prop) (ad : Nat → Nat) (thr : Option String) (rv : Option Value) (ce1 : Nat → va_E) : Array Value → State → Outcome → State → Prop := fun a st oc t => thr = none ∧ gQ D Hb lv ad rv ce1 a st oc t
def xX (D : va_G) (Hb : Heap) (lv : Nat → Prop) (ad : Nat → Nat) (thr : Option String) (ce2 : Nat → va_E) : String → State → State → Prop := fun E _ t => thr = some E ∧ gW D Hb lv ad ce2 t.heap
theorem x_back {thr : Option String} {rv : Option Value} {mc ms : Nat} {a : Array Value} (hr : vx_Run p l e R s m args below meth c H locs cells slots mc ms (F0 m pc ls st0) rest (xQ D Hb lv ad thr rv ce1 a) (xX D Hb lv ad thr ce2) (gA Hb)) (hL : gL Hb locs)
    (kk : thr = none → ∀ (H1 : Heap) (locs1 : List Loc), gW D Hb lv ad ce1 H1 → gL Hb locs1 → W p l e R s m args below meth c H1 locs1 (cells + mc) (slots + ms) Q (F0 m (pc + 3) ls (rv.toList ++ rest)))
    (kx : ∀ E, thr = some E → ∀ (H1 : Heap) (locs1 : List Loc) (q : Addr) (c9 : Cell), gW D Hb lv ad ce2 H1 → gL Hb locs1 → H1[q]? = some c9 → c9.vm = .none → s.vm.findClass E = some c9.cls → vx_W p l e R s m args below meth c H1 locs1 (cells + mc) (slots + ms) Q (F0 m pc ls rest) q) : W p l e R s m args below meth c H locs cells slots Q (F0 m pc ls st0) := by
  intro T hT X
  rcases hr T hT X with ⟨v, st₀, t, T', L, h0, X', hLL, e1, e2, ⟨hn, hv, hg⟩, st⟩ | ⟨q, st₀, t, T', L, E, c9, h0, X', hLL, e1, e2, ⟨hE, hg⟩, hc, hcv, hcl, st⟩
  · cases hv
    obtain ⟨t2, a1, b1⟩ := kk hn T'.heap (locs ++ L) (by rw [e1]; exact hg) (hL.app hLL) T' rfl X'
    exact ⟨t2, st t2 a1, b1⟩
  · obtain ⟨t2, a1, b1⟩ := kx E hE T'.heap (locs ++ L) q c9 (by rw [e1]; exact hg) (hL.app hLL) (by rw [e1]; exact hc) hcv hcl T' rfl X'
    exact ⟨t2, st.trans a1, b1⟩
/-- a call on an object of the world that may throw; what is thrown goes on to the caller -/
theorem x_callV {y : MethodName} {ws ws' : List Cond} {rm : Room} {mc ms mc2 ms2 n index maxL : Nat} {bytes : ByteArray} {ret : Option FieldType} {rv : Option Value} {As : List Value} {k ci : Nat} {q : vw_C} {fs : List Value} {thr thr2 : Option String} {Qc : Array Value → State → Outcome → State → Prop} {ce3 : Nat → va_E}
    (S : kX p m c cc nL s args Ts own D tys Hb K) (hG : gW D Hb lv ad ce H) (hL : gL Hb locs) (hk : lv k) (he : ce k = .inr (ci, fs)) (hc : vwCl[ci]? = some q)
    (hM : vx_Met l y ws rm (va_Pc (.ref (ad k) :: As) (kP D tys Hb K lv ad ce)) (xQ D Hb lv ad thr rv ce1) (xX D Hb lv ad thr ce2) mc ms (gA Hb)) (gd : GoodIn Ts (wsV own index q.1 y ws)) (hw : ws = Cond.code y bytes maxL ret :: ws') (hrm : rm.cells = mc ∧ rm.slots = ms)
    (hd : y.cls = q.1 ∧ y.cls ≠ "java/lang/invoke/MethodHandle" ∧ y.cls ≠ "java/lang/invoke/VarHandle" ∧ (parseMethodDescriptor y.desc).map (fun d => d.parameters.length) = some n) (hR : rm.frames + 1 ≤ R.frames ∧ 8 + (maxL + 11) + rm.locals ≤ R.locals)
    (hn : As.length = n) (hsize : ls.size = nL) (hst : st0 = As.reverse ++ .ref (ad k) :: rest) (hW : (rest.map fun v => v.category).sum ≤ 8) (hdg : decode cc pc = .ok (.invokevirtual index, 3)) (hf : cells + mc ≤ R.cells ∧ slots + ms ≤ R.slots)
    (hout : ∀ x ∈ c.exceptionTable.toList, False) (hlocks : meth.locks = false) (hth : ∀ E, thr = some E → thr2 = some E ∧ ce2 = ce3) (hfit : cells + mc ≤ mc2 ∧ slots + ms ≤ ms2) (h1 : rv.toList ++ rest = st1)
    (kk : thr = none → ∀ (H1 : Heap) (locs1 : List Loc), gW D Hb lv ad ce1 H1 → gL Hb locs1 → W p l e R s m args below meth c H1 locs1 (cells + mc) (slots + ms) (vx_MQ below Qc (xX D Hb lv ad thr2 ce3) args s mc2 ms2 (gA Hb)) (F0 m (pc + 3) ls st1)) : W p l e R s m args below meth c H locs cells slots (vx_MQ below Qc (xX D Hb lv ad thr2 ce3) args s mc2 ms2 (gA Hb)) (F0 m pc ls st0) :=
  x_back (vx_runV (b := ad k) S.1 hM (cwV n S.1.2.2.2.2 gd hw hrm.1 hrm.2 hd hR) ⟨kP.blind, va_recv S.2.1 (hG.one hk he) hc (q0 := 0) rfl, fun U hU hW => ⟨rfl, by rw [hU]; exact hG, va_K.moved hW.alike S.2.1, kE.warm hW S.2.2⟩⟩ rfl hn hsize hst (by show 2 * 0 + _ ≤ 8; omega) hdg hf) hL (fun hn0 H1 l1 a b => by rw [h1]; exact kk hn0 H1 l1 a b)
    (fun E hE H1 l1 q c9 g9 hL9 hc9 hv9 hcl9 => vx_out (fun x hx => (hout x hx).elim) hlocks hc9 hv9 hcl9 (fun t ht _ => ⟨(hth E hE).1, by rw [ht, ← (hth E hE).2]; exact g9⟩) hL9 hfit.1 hfit.2)
/-- 'throw new E("text")' -/
theorem k_throw {cls text : String} {ik is ic mc ms i : Nat} {thr : Option String} {Qc : Array Value → State → Outcome → State → Prop} (S : kX p m c cc nL s args Ts own D tys Hb K) (hl : l.stackTraces = false) (hH : ∀ q : Nat, q < Hb.size → s.heap[q]? = Hb[q]?) (hG : gW D Hb lv ad ce H) (hL : gL Hb locs)
    (hcls : Bundle.fit cls = true) (hk : (Cond.classLink own ik cls).before args s = true) (hini : (Cond.initialized cls).before args s = true) (hstr : kStr[i]? = some (own, is, text)) (hA : ∀ w ∈ (vx_atS own ic cls ["java/lang/RuntimeException", "java/lang/Exception"]).filter goodWord, w ∈ Ts) (hB : ∀ w ∈ (vx_atS own ic cls ["java/lang/RuntimeException", "java/lang/Exception"]).filter (fun w => !goodWord w), w ∈ xB cls) (hCc : (cls, cls) ∈ kNc)
    (hgood : ∀ w ∈ Cond.classLink own ik cls :: Cond.initialized cls :: vx_atS own ic cls ["java/lang/RuntimeException", "java/lang/Exception"], vx_ot w = true) (hsize : ls.size = nL)
    (d0 : decode cc pc = .ok (.new ik, 3)) (d3 : decode cc (pc + 3) = .ok (.dup, 1)) (d4 : decode cc (pc + 4) = .ok (.ldc is, 2)) (d6 : decode cc (pc + 6) = .ok (.invokespecial ic, 3)) (d9 : decode cc (pc + 9) = .ok (.athrow, 1))
    (hout : ∀ x ∈ c.exceptionTable.toList, False) (hRf : 5 < R.frames) (hRl : (rest.map fun v => v.category).sum + 82 ≤ R.locals) (hRc : cells + 1 ≤ R.cells) (hRs : slots + 6 ≤ R.slots) (hlocks : meth.locks = false) (hth : thr = some cls) (e2 : ce = ce2) (hc : cells + 1 ≤ mc) (hs : slots + 6 ≤ ms) :
    W p l e R s m args below meth c H locs cells slots (vx_MQ below Qc (xX D Hb lv ad thr ce2) args s mc ms (gA Hb)) (F0 m pc ls rest) := by
  intro T hT X
  obtain ⟨⟨hexec, hb, hml, hown, hts⟩, hK, hE⟩ := S
  have hsz : s.heap.size ≤ H.size := by
    have h := (vx_frame (U := T) X.same).1
    rw [hT] at h
    exact h
  have hkept : ∀ a : Nat, a < Hb.size → ¬ gA Hb a → s.heap[a]? = Hb[a]? := fun a ha _ => hH a ha
  have hat : ∀ w ∈ vx_atS own ic cls ["java/lang/RuntimeException", "java/lang/Exception"], w.before args s = true := vx_hat (fun w hw => hts w (hA w hw)) hB (vx_c (va_Nw.use rfl (hE.2.2.1 _ hCc)) (vx_c (va_Nw.use rfl (hE.2.2.2.1 _ (List.mem_of_getElem? (i := 0) rfl))) (vx_c (va_Nw.use rfl (hE.2.2.2.1 _ (List.mem_of_getElem? (i := 1) rfl))) (vx_c (va_Nw.use rfl (hE.2.2.2.1 _ (List.mem_of_getElem? (i := 2) rfl))) vx_n))))
  have hS : va_S (gA Hb) s.heap H locs := ⟨hsz, fun q _ hq => by
    have hq' : q < Hb.size := Nat.lt_of_not_le hq
    rw [hH q hq']; exact hG.2.2.2.2 q hq', hL⟩
  exact vx_throwS (names := ["java/lang/RuntimeException", "java/lang/Exception"]) (A := gA Hb) hexec hb hl hown hcls (by decide +kernel) hk hini (hE.2.2.2.2.1 i _ hstr) hat hgood (hE.2.2.2.2.2.1.kept hkept) (hE.2.2.2.2.2.2.1.kept hkept) hS (hsize.trans hml.symm) d0 d3 d4 d6 d9 (fun x hx => (hout x hx).elim) hRf hRl hRc hRs hlocks
    (fun t _ hz hq => ⟨hth, by rw [← e2]; exact hG.more hz hq⟩) hL hc hs T hT X
theorem k_throwW {cls text : String} {ik is ic mc ms i : Nat} {thr : Option String} {Qc : Array Value → State → Outcome → State → Prop} (S : kX p m c cc nL s args Ts own D tys Hb K) (hl : l.stackTraces = false) (hH : ∀ q : Nat, q < Hb.size → s.heap[q]? = Hb[q]?) (hG : gW D Hb lv ad ce H) (hL : gL Hb locs)
    (hcls : Bundle.fit cls = true) (hk : (Cond.classLink own ik cls).before args s = true) (hini : (Cond.initialized cls).before args s = true) (hstr : kStr[i]? = some (own, is, text)) (hA : ∀ w ∈ (vx_atS own ic cls ["java/lang/RuntimeException", "java/lang/Exception"]).filter goodWord, w ∈ Ts) (hB : ∀ w ∈ (vx_atS own ic cls ["java/lang/RuntimeException", "java/lang/Exception"]).filter (fun w => !goodWord w), w ∈ xB cls) (hCc : (cls, cls) ∈ kNc)
    (hgood : ∀ w ∈ Cond.classLink own ik cls :: Cond.initialized cls :: vx_atS own ic cls ["java/lang/RuntimeException", "java/lang/Exception"], vx_ot w = true) (hsize : ls.size = nL)
    (d0 : decode cc pc = .ok (.new ik, 3)) (d3 : decode cc (pc + 3) = .ok (.dup, 1)) (d4 : decode cc (pc + 4) = .ok (.ldc_w is, 3)) (d6 : decode cc (pc + 7) = .ok (.invokespecial ic, 3)) (d9 : decode cc (pc + 10) = .ok (.athrow, 1))
    (hout : ∀ x ∈ c.exceptionTable.toList, False) (hRf : 5 < R.frames) (hRl : (rest.map fun v => v.category).sum + 82 ≤ R.locals) (hRc : cells + 1 ≤ R.cells) (hRs : slots + 6 ≤ R.slots) (hlocks : meth.locks = false) (hth : thr = some cls) (e2 : ce = ce2) (hc : cells + 1 ≤ mc) (hs : slots + 6 ≤ ms) :
    W p l e R s m args below meth c H locs cells slots (vx_MQ below Qc (xX D Hb lv ad thr ce2) args s mc ms (gA Hb)) (F0 m pc ls rest) := by
  intro T hT X
  obtain ⟨⟨hexec, hb, hml, hown, hts⟩, hK, hE⟩ := S
  have hsz : s.heap.size ≤ H.size := by
    have h := (vx_frame (U := T) X.same).1
    rw [hT] at h
    exact h
  have hkept : ∀ a : Nat, a < Hb.size → ¬ gA Hb a → s.heap[a]? = Hb[a]? := fun a ha _ => hH a ha
  have hat : ∀ w ∈ vx_atS own ic cls ["java/lang/RuntimeException", "java/lang/Exception"], w.before args s = true := vx_hat (fun w hw => hts w (hA w hw)) hB (vx_c (va_Nw.use rfl (hE.2.2.1 _ hCc)) (vx_c (va_Nw.use rfl (hE.2.2.2.1 _ (List.mem_of_getElem? (i := 0) rfl))) (vx_c (va_Nw.use rfl (hE.2.2.2.1 _ (List.mem_of_getElem? (i := 1) rfl))) (vx_c (va_Nw.use rfl (hE.2.2.2.1 _ (List.mem_of_getElem? (i := 2) rfl))) vx_n))))
  have hS : va_S (gA Hb) s.heap H locs := ⟨hsz, fun q _ hq => by
    have hq' : q < Hb.size := Nat.lt_of_not_le hq
    rw [hH q hq']; exact hG.2.2.2.2 q hq', hL⟩
  exact vx_throwSW (names := ["java/lang/RuntimeException", "java/lang/Exception"]) (A := gA Hb) hexec hb hl hown hcls (by decide +kernel) hk hini (hE.2.2.2.2.1 i _ hstr) hat hgood (hE.2.2.2.2.2.1.kept hkept) (hE.2.2.2.2.2.2.1.kept hkept) hS (hsize.trans hml.symm) d0 d3 d4 d6 d9 (fun x hx => (hout x hx).elim) hRf hRl hRc hRs hlocks
    (fun t _ hz hq => ⟨hth, by rw [← e2]; exact hG.more hz hq⟩) hL hc hs T hT X
/-- .. and its plain ends -/
theorem x_iret {v : Int32} {rv : Option Value} {thr : Option String} {XC : String → State → State → Prop} (S : CallFix p m c cc nL s args Ts own) (hr : meth.sig.returnType = some .int) (hlocks : meth.locks = false) (hG : gW D Hb lv ad ce H) (hL : gL Hb locs) (ht : thr = none) (e1 : rv = some (.int v)) (e2 : ce = ce') (hdg : decode cc pc = .ok (.ireturn, 1)) {mc ms : Nat} (hc : cells ≤ mc) (hs : slots ≤ ms) : W p l e R s m args below meth c H locs cells slots (vx_MQ below (xQ D Hb lv ad thr rv ce') XC args s mc ms (gA Hb)) (F0 m pc ls [.int v]) :=
  W.widen hc hs (vx_ret (W.iret S.1 S.2.1 hr (fun t ht0 _ => ⟨ht, by rw [e1], by rw [ht0, ← e2]; exact hG⟩) hL hdg hlocks))
theorem x_vret {rv : Option Value} {thr : Option String} {XC : String → State → State → Prop} (S : CallFix p m c cc nL s args Ts own) (hr : meth.sig.returnType = none) (hlocks : meth.locks = false) (hG : gW D Hb lv ad ce H) (hL : gL Hb locs) (ht : thr = none) (e1 : rv = none) (e2 : ce = ce') (hdg : decode cc pc = .ok (.return_, 1)) {mc ms : Nat} (hc : cells ≤ mc) (hs : slots ≤ ms) : W p l e R s m args below meth c H locs cells slots (vx_MQ below (xQ D Hb lv ad thr rv ce') XC args s mc ms (gA Hb)) (F0 m pc ls []) :=
  W.widen hc hs (vx_ret (W.vret S.1 S.2.1 hr (fun t ht0 _ => ⟨ht, by rw [e1], by rw [ht0, ← e2]; exact hG⟩) hL hdg hlocks))
theorem x_aret {v : Value} {rv : Option Value} {thr : Option String} {XC : String → State → State → Prop} {rt : FieldType} (S : CallFix p m c cc nL s args Ts own) (hr : meth.sig.returnType = some rt) (hrt : (∃ n, rt = .object n) ∨ ∃ t, rt = .array t) (hlocks : meth.locks = false) (hG : gW D Hb lv ad ce H) (hL : gL Hb locs) (hv : v = .null ∨ ∃ a, v = .ref a) (ht : thr = none) (e1 : rv = some v) (e2 : ce = ce') (hdg : decode cc pc = .ok (.areturn, 1)) {mc ms : Nat} (hc : cells ≤ mc) (hs : slots ≤ ms) : W p l e R s m args below meth c H locs cells slots (vx_MQ below (xQ D Hb lv ad thr rv ce') XC args s mc ms (gA Hb)) (F0 m pc ls [v]) :=
  W.widen hc hs (vx_ret (W.aret S.1 S.2.1 hr hrt hv (fun t ht0 _ => ⟨ht, by rw [e1], by rw [ht0, ← e2]; exact hG⟩) hL hdg hlocks))
end XRW
abbrev xMet (l : Launch) (D : va_G) (cI cZ cB cO cR cJ : ClassId) (Hb : Heap) (K : kTx) (lv : Nat → Prop) (ad : Nat → Nat) (ce0 : Nat → va_E) (y : MethodName) (ws : List Cond) (fr lo mc : Nat) (av : List Value) (s : Nat → Int32) (r : Nat → Nat → Int32) (thr : Option String) (rv : Option Value) (s' : Nat → Int32) (r' : Nat → Nat → Int32) (s2 : Nat → Int32) (r2 : Nat → Nat → Int32) : Prop :=
  vx_Met l y ws { frames := fr, cells := mc, slots := 6 * mc, locals := lo } (va_Pc av (kP D (tyL cI cZ cB cO cR cJ) Hb K lv ad (kJ ce0 ad K.2.2.1 cI cB cO cR s r))) (xQ D Hb lv ad thr rv (kJ ce0 ad K.2.2.1 cI cB cO cR s' r')) (xX D Hb lv ad thr (kJ ce0 ad K.2.2.1 cI cB cO cR s2 r2)) mc (6 * mc) (gA Hb)
