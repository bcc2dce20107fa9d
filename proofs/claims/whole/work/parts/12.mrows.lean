/-! calls and ends of the reference's methods; a method's contract: what it answers, what its ints and arrays are behind it -/
section MRX
variable {p : Program} {l : Launch} {e : Env} {R : Room} {s : State} {m : MethodId} {args : Array Value} {below : List Frame} {meth : Method} {c : Code} {H : Heap} {locs : List Loc} {cells slots : Nat} {Q : State → Prop}
variable {cc : ByteArray} {pc nL : Nat} {ls : Array Slot} {rest st0 st1 : List Value} {D : va_G} {cI cZ cB cO cR cJ : ClassId} {Hb : Heap} {lv : Nat → Prop} {ad : Nat → Nat} {ce0 : Nat → va_E} {Ts : List Cond} {sm sm' : Nat → Int32} {rm rm' : Nat → Nat → Int32}
abbrev mMet (l : Launch) (D : va_G) (cI cZ cB cO cR cJ : ClassId) (Hb : Heap) (lv : Nat → Prop) (ad : Nat → Nat) (ce0 : Nat → va_E) (y : MethodName) (ws : List Cond) (fr lo : Nat) (av : List Value) (sm : Nat → Int32) (rm : Nat → Nat → Int32) (rv : Option Value) (sm' : Nat → Int32) (rm' : Nat → Nat → Int32) : Prop :=
  Met l y ws { frames := fr, cells := 0, slots := 0, locals := lo } (va_Pc av (gP D (tyL cI cZ cB cO cR cJ) Hb lv ad (mJ ce0 ad cI cZ sm rm))) (gQ D Hb lv ad rv (mJ ce0 ad cI cZ sm' rm')) 0 0 (gA Hb)
abbrev pMet (l : Launch) (y : MethodName) (ws : List Cond) (fr lo : Nat) (av : List Value) (rv : Option Value) : Prop :=
  Met l y ws { frames := fr, cells := 0, slots := 0, locals := lo } (va_Pc av (fun _ => True)) (gQp rv) 0 0 (fun _ => False)
theorem m_callV {y : MethodName} {ws ws' : List Cond} {fr lo n index maxL : Nat} {bytes : ByteArray} {ret : Option FieldType} {rv : Option Value} {As : List Value} (S : mX p m c cc nL s args Ts D cI cZ cB cO cR cJ lv) (hG : gW D Hb lv ad (mJ ce0 ad cI cZ sm rm) H) (hL : gL Hb locs)
    (hM : mMet l D cI cZ cB cO cR cJ Hb lv ad ce0 y ws fr lo (.ref (ad 0) :: As) sm rm rv sm' rm') (gd : GoodIn Ts (wsV RX10 index RX10 y ws)) (hw : ws = Cond.code y bytes maxL ret :: ws')
    (hd : y.cls = RX10 ∧ y.cls ≠ "java/lang/invoke/MethodHandle" ∧ y.cls ≠ "java/lang/invoke/VarHandle" ∧ (parseMethodDescriptor y.desc).map (fun d => d.parameters.length) = some n) (hR : fr + 1 ≤ R.frames ∧ 8 + (maxL + 11) + lo ≤ R.locals)
    (hn : As.length = n) (hsize : ls.size = nL) (hst : st0 = As.reverse ++ .ref (ad 0) :: rest) (hW : (rest.map fun v => v.category).sum ≤ 8) (hdg : decode cc pc = .ok (.invokevirtual index, 3)) (hf : cells ≤ R.cells ∧ slots ≤ R.slots) (h1 : rv.toList ++ rest = st1)
    (kk : ∀ (H1 : Heap) (locs1 : List Loc), gW D Hb lv ad (mJ ce0 ad cI cZ sm' rm') H1 → gL Hb locs1 → W p l e R s m args below meth c H1 locs1 cells slots Q (F0 m (pc + 3) ls st1)) : W p l e R s m args below meth c H locs cells slots Q (F0 m pc ls st0) :=
  g_callV (q := (RX10, TX10, 69)) S.1 S.2.1 hG hL S.2.2.2.z (mJ_0 ..) rfl hM (cwV n S.1.2.2.2.2 gd hw rfl rfl hd hR) hn hsize hst hW hdg hf (fun H1 l1 a b => by rw [h1]; exact kk H1 l1 a b)
theorem m_callP {own : String} {y : MethodName} {ws ws' : List Cond} {fr lo n index maxL : Nat} {bytes : ByteArray} {ret : Option FieldType} {rv : Option Value} {As : List Value} (S : CallFix p m c cc nL s args Ts own)
    (hM : pMet l y ws fr lo As rv) (gd : GoodIn Ts (va_wsS own index y ws)) (hw : ws = Cond.code y bytes maxL ret :: ws')
    (hd : y.cls ≠ "java/lang/invoke/MethodHandle" ∧ y.cls ≠ "java/lang/invoke/VarHandle" ∧ (parseMethodDescriptor y.desc).map (fun d => d.parameters.length) = some n) (hR : fr + 1 ≤ R.frames ∧ 8 + (maxL + 11) + lo ≤ R.locals)
    (hn : As.length = n) (hsize : ls.size = nL) (hst : st0 = As.reverse ++ rest) (hW : (rest.map fun v => v.category).sum ≤ 8) (hdg : decode cc pc = .ok (.invokestatic index, 3)) (hf : cells ≤ R.cells ∧ slots ≤ R.slots) (h1 : rv.toList ++ rest = st1)
    (kk : W p l e R s m args below meth c H locs cells slots Q (F0 m (pc + 3) ls st1)) : W p l e R s m args below meth c H locs cells slots Q (F0 m pc ls st0) :=
  g_callP S hM (va_cwS n S.2.2.2.2 gd hw rfl rfl hd hR) hn hsize hst hW hdg hf (by rw [h1]; exact kk)
theorem m_iret {v v' : Int32} (S : mX p m c cc nL s args Ts D cI cZ cB cO cR cJ lv) (hr : meth.sig.returnType = some .int) (hlocks : meth.locks = false) (hG : gW D Hb lv ad (mJ ce0 ad cI cZ sm rm) H) (hL : gL Hb locs) (hdg : decode cc pc = .ok (.ireturn, 1)) (e1 : v' = v) (e2 : sm = sm') (e3 : rm = rm') : W p l e R s m args below meth c H locs cells slots (MQ below (gQ D Hb lv ad (some (.int v')) (mJ ce0 ad cI cZ sm' rm')) args s cells slots (gA Hb)) (F0 m pc ls [.int v]) :=
  g_iret S.1 hr hlocks hG hL (by rw [e1]) (by rw [e2, e3]) hdg
theorem m_zret {v v' : Int32} (S : mX p m c cc nL s args Ts D cI cZ cB cO cR cJ lv) (hr : meth.sig.returnType = some .boolean) (hlocks : meth.locks = false) (hn : narrow .boolean (.int v) = .int v) (hG : gW D Hb lv ad (mJ ce0 ad cI cZ sm rm) H) (hL : gL Hb locs) (hdg : decode cc pc = .ok (.ireturn, 1)) (e1 : v' = v) (e2 : sm = sm') (e3 : rm = rm') : W p l e R s m args below meth c H locs cells slots (MQ below (gQ D Hb lv ad (some (.int v')) (mJ ce0 ad cI cZ sm' rm')) args s cells slots (gA Hb)) (F0 m pc ls [.int v]) :=
  g_zret S.1 hr hlocks hn hG hL (by rw [e1]) (by rw [e2, e3]) hdg
theorem m_vret (S : mX p m c cc nL s args Ts D cI cZ cB cO cR cJ lv) (hr : meth.sig.returnType = none) (hlocks : meth.locks = false) (hG : gW D Hb lv ad (mJ ce0 ad cI cZ sm rm) H) (hL : gL Hb locs) (hdg : decode cc pc = .ok (.return_, 1)) (e2 : sm = sm') (e3 : rm = rm') : W p l e R s m args below meth c H locs cells slots (MQ below (gQ D Hb lv ad none (mJ ce0 ad cI cZ sm' rm')) args s cells slots (gA Hb)) (F0 m pc ls []) :=
  g_vret S.1 hr hlocks hG hL rfl (by rw [e2, e3]) hdg
end MRX
theorem vp_in_t {x : Int32} {n : Nat} (h0 : 0 ≤ x.toInt) (h1 : x.toInt < n) : vp_in x n := vp_in_iff.mpr ⟨h0, h1⟩
theorem t_lt (a b : Int32) : a < b ↔ a.toInt < b.toInt := Int32.lt_iff_toInt_lt
theorem t_le (a b : Int32) : a ≤ b ↔ a.toInt ≤ b.toInt := Int32.le_iff_toInt_le
theorem t_eq (a b : Int32) : a = b ↔ a.toInt = b.toInt := Int32.toInt_inj.symm
theorem t_ix {x : Int32} (h : 0 ≤ x.toInt) : (x.toNatClampNeg : Int) = x.toInt := by
  show ((x.toInt.toNat : Nat) : Int) = x.toInt
  omega
theorem t_rng (x : Int32) : -2147483648 ≤ x.toInt ∧ x.toInt < 2147483648 := ⟨Int32.le_toInt x, Int32.toInt_lt x⟩
theorem t_add {x y : Int32} (h1 : -2147483648 ≤ x.toInt + y.toInt) (h2 : x.toInt + y.toInt < 2147483648) : (x + y).toInt = x.toInt + y.toInt := by
  rw [Int32.toInt_add]; unfold Int.bmod; simp only; omega
theorem t_sub {x y : Int32} (h1 : -2147483648 ≤ x.toInt - y.toInt) (h2 : x.toInt - y.toInt < 2147483648) : (x - y).toInt = x.toInt - y.toInt := by
  rw [Int32.toInt_sub]; unfold Int.bmod; simp only; omega
theorem t_bool {x : Int32} (h : x = 0 ∨ x = 1) : narrow .boolean (.int x) = .int x ∧ vp_nar .boolean x = x := by
  rcases h with rfl | rfl <;> exact ⟨by decide, by decide⟩
