/-! texts: String constants, their bytes; statics -/
section SRW
variable {p : Program} {l : Launch} {e : Env} {R : Room} {s : State} {m : MethodId} {args : Array Value} {below : List Frame} {meth : Method} {c : Code} {H : Heap} {locs : List Loc} {cells slots : Nat} {Q : State → Prop}
variable {cc : ByteArray} {pc nL : Nat} {ls : Array Slot} {rest st0 st1 : List Value} {D : va_G} {tys : List (ClassId × FieldType)} {Hb : Heap} {K : kTx} {lv : Nat → Prop} {ad : Nat → Nat} {ce ce' : Nat → va_E} {Ts : List Cond} {own : String}
/-- what lies behind the law's entry has not changed -/
theorem k_same {T : State} (X : Stand p l e R s m args below meth c T locs cells slots) (hT : T.heap = H) (hH : ∀ q : Nat, q < Hb.size → s.heap[q]? = Hb[q]?) (hG : gW D Hb lv ad ce H) (hL : gL Hb locs) : va_S (gA Hb) s.heap H locs := by
  have h := (vx_frame (U := T) X.same).1
  rw [hT] at h
  exact ⟨h, fun q _ hq => by
    have hq' : q < Hb.size := Nat.lt_of_not_le hq
    rw [hH q hq']; exact hG.2.2.2.2 q hq', hL⟩
theorem k_strf (S : kX p m c cc nL s args Ts own D tys Hb K) (hH : ∀ q : Nat, q < Hb.size → s.heap[q]? = Hb[q]?) (hG : gW D Hb lv ad ce H) (hL : gL Hb locs) {n d : String} {index q : Nat} {v : Value} (hF : va_OF "java/lang/String" n d v q (gA Hb) s Hb) (hlink : (Cond.fieldLink own index "java/lang/String" n d).before args s = true) (hdg : decode cc pc = .ok (.getfield index, 3))
    (kk : W p l e R s m args below meth c H locs cells slots Q (F0 m (pc + 3) ls (v :: rest))) : W p l e R s m args below meth c H locs cells slots Q (F0 m pc ls (.ref q :: rest)) := by
  intro T hT X
  exact vk_getf S.1.1 S.1.2.1 (hF.kept (fun a ha _ => hH a ha)) (k_same X hT hH hG hL) S.1.2.2.2.1 hlink (fun _ h => h) hdg kk T hT X
theorem k_gets (S : kX p m c cc nL s args Ts own D tys Hb K) (hH : ∀ q : Nat, q < Hb.size → s.heap[q]? = Hb[q]?) (hG : gW D Hb lv ad ce H) (hL : gL Hb locs) {C n d : String} {index : Nat} {v : Value} (hZ : va_Z C n d v (gA Hb) s Hb) (hlink : (Cond.fieldLink own index C n d).before args s = true) (hdg : decode cc pc = .ok (.getstatic index, 3))
    (kk : W p l e R s m args below meth c H locs cells slots Q (F0 m (pc + 3) ls (v :: rest))) : W p l e R s m args below meth c H locs cells slots Q (F0 m pc ls rest) := by
  intro T hT X
  exact va_gets S.1.1 S.1.2.1 (hZ.kept (fun a ha _ => hH a ha)) (k_same X hT hH hG hL) S.1.2.2.2.1 hlink (fun _ h => h) hdg kk T hT X
theorem k_tlen (S : kX p m c cc nL s args Ts own D tys Hb K) (hH : ∀ q : Nat, q < Hb.size → s.heap[q]? = Hb[q]?) (hG : gW D Hb lv ad ce H) (hL : gL Hb locs) {t N : Nat} {f : Nat → Value} (hX : va_T .byte t N f (gA Hb) s Hb) (hdg : decode cc pc = .ok (.arraylength, 1))
    (kk : W p l e R s m args below meth c H locs cells slots Q (F0 m (pc + 1) ls (.int (nI N) :: rest))) : W p l e R s m args below meth c H locs cells slots Q (F0 m pc ls (.ref t :: rest)) := by
  intro T hT X
  exact va_tlen S.1.1 S.1.2.1 (hX.kept (fun a ha _ => hH a ha)) (k_same X hT hH hG hL) rfl hdg kk T hT X
theorem k_tb (S : kX p m c cc nL s args Ts own D tys Hb K) (hH : ∀ q : Nat, q < Hb.size → s.heap[q]? = Hb[q]?) (hG : gW D Hb lv ad ce H) (hL : gL Hb locs) {t N : Nat} {f : Nat → Value} (hX : va_T .byte t N f (gA Hb) s Hb) {i : Int32} (hin : vp_in i N) {v : Value} (hv : f i.toNatClampNeg = v) (hdg : decode cc pc = .ok (.baload, 1))
    (kk : W p l e R s m args below meth c H locs cells slots Q (F0 m (pc + 1) ls (v :: rest))) : W p l e R s m args below meth c H locs cells slots Q (F0 m pc ls (.int i :: .ref t :: rest)) := by
  intro T hT X
  exact va_tb S.1.1 S.1.2.1 (hX.kept (fun a ha _ => hH a ha)) (k_same X hT hH hG hL) hin hv hdg kk T hT X
theorem k_ldcS (S : kX p m c cc nL s args Ts own D tys Hb K) {is i : Nat} {text : String} (hstr : kStr[i]? = some (own, is, text)) (hdg : decode cc pc = .ok (.ldc is, 2))
    (kk : W p l e R s m args below meth c H locs cells slots Q (F0 m (pc + 2) ls (.ref (K.1 i) :: rest))) : W p l e R s m args below meth c H locs cells slots Q (F0 m pc ls rest) :=
  va_ldcS S.1.1 S.1.2.1 S.1.2.2.2.1 (S.2.2.2.2.2.2.1 i _ hstr) hdg kk
theorem kE.str {s : State} (h : kE Hb K s) : vk_S 30 kLen kByt K.1 K.2.1 (gA Hb) s Hb := h.2.2.2.2.2.2.2.2.2.2.2.2.2.2
theorem kE.com {s : State} (h : kE Hb K s) : va_Z "java/lang/String" "COMPACT_STRINGS" "Z" (.int 1) (gA Hb) s Hb := h.2.2.2.2.2.2.2.1
theorem kE.fmt {s : State} (h : kE Hb K s) : va_Zq "jdk/internal/util/Preconditions" "SIOOBE_FORMATTER" "Ljava/util/function/BiFunction;" (gA Hb) s Hb := h.2.2.2.2.2.2.2.2.1
/-- a call on a String constant -/
theorem k_callT {y : MethodName} {ws ws' : List Cond} {rm : Room} {mc ms n index maxL i : Nat} {bytes : ByteArray} {ret : Option FieldType} {rv : Option Value} {As : List Value}
    (S : kX p m c cc nL s args Ts own D tys Hb K) (hG : gW D Hb lv ad ce H) (hL : gL Hb locs) (hi : i < 30)
    (hM : Met l y ws rm (va_Pc (.ref (K.1 i) :: As) (kP D tys Hb K lv ad ce)) (gQ D Hb lv ad rv ce') mc ms (gA Hb)) (gd : GoodIn Ts (wsV own index "java/lang/String" y ws)) (hw : ws = Cond.code y bytes maxL ret :: ws') (hrm : rm.cells = mc ∧ rm.slots = ms)
    (hd : y.cls = "java/lang/String" ∧ y.cls ≠ "java/lang/invoke/MethodHandle" ∧ y.cls ≠ "java/lang/invoke/VarHandle" ∧ (parseMethodDescriptor y.desc).map (fun d => d.parameters.length) = some n) (hR : rm.frames + 1 ≤ R.frames ∧ 8 + (maxL + 11) + rm.locals ≤ R.locals)
    (hn : As.length = n) (hsize : ls.size = nL) (hst : st0 = As.reverse ++ .ref (K.1 i) :: rest) (hW : (rest.map fun v => v.category).sum ≤ 8) (hdg : decode cc pc = .ok (.invokevirtual index, 3)) (hf : cells + mc ≤ R.cells ∧ slots + ms ≤ R.slots) (h1 : rv.toList ++ rest = st1)
    (kk : ∀ (H1 : Heap) (locs1 : List Loc), gW D Hb lv ad ce' H1 → gL Hb locs1 → W p l e R s m args below meth c H1 locs1 (cells + mc) (slots + ms) Q (F0 m (pc + 3) ls st1)) : W p l e R s m args below meth c H locs cells slots Q (F0 m pc ls st0) := by
  have hrec : ∃ cell : Cell, H[K.1 i]? = some cell ∧ cell.vm.isStatics = false ∧ s.vm.findClass "java/lang/String" = some cell.cls := by
    obtain ⟨cell, h1, h2, h3, -⟩ := ((S.2.2.str).1 i hi).1.kept (H1 := H) (fun a ha _ => hG.2.2.2.2 a ha)
    exact ⟨cell, h1, h2, h3⟩
  exact g_back (va_runV (b := K.1 i) (C := "java/lang/String") S.1 hM (cwV n S.1.2.2.2.2 gd hw hrm.1 hrm.2 hd hR) ⟨kP.blind, hrec, fun U hU hW => ⟨rfl, by rw [hU]; exact hG, va_K.moved hW.alike S.2.1, kE.warm hW S.2.2⟩⟩ rfl hn hsize hst (by show 2 * 0 + _ ≤ 8; omega) hdg hf) hL (fun H1 l1 a b => by rw [h1]; exact kk H1 l1 a b)
theorem g_yret {v : Int32} {rv : Option Value} {ty : FieldType} (S : CallFix p m c cc nL s args Ts own) (hr : meth.sig.returnType = some ty) (hlocks : meth.locks = false) (hn : narrow ty (.int v) = .int v) (hG : gW D Hb lv ad ce H) (hL : gL Hb locs) (e1 : rv = some (.int v)) (e2 : ce = ce') (hdg : decode cc pc = .ok (.ireturn, 1)) : W p l e R s m args below meth c H locs cells slots (MQ below (gQ D Hb lv ad rv ce') args s cells slots (gA Hb)) (F0 m pc ls [.int v]) :=
  W.zret S.1 S.2.1 hr hn (fun t ht _ => ⟨by rw [e1], by rw [ht, ← e2]; exact hG⟩) hL hdg hlocks
end SRW
def kCh (i j : Nat) : Int32 := (kByt.getD i []).getD j 0
theorem kCh_all : ∀ i, i < 30 → ∀ j, j < kLen.getD i 0 → ((kCh i j &&& 255).toUInt32 % 65536).toInt32 = kCh i j ∧ narrow .char (.int (kCh i j)) = .int (kCh i j) := by decide +kernel
theorem kLen_all : ∀ i, i < 30 → kLen.getD i 0 ≤ 40 := by decide +kernel
theorem sh0 (x : Int32) : x >>> ((0 : Int32) &&& 31) = x := by
  show x >>> (0 : Int32) = x
  simp
