/-! the law: rows -/
section LRW
variable {p : Program} {l : Launch} {e : Env} {R : Room} {s : State} {m : MethodId} {args : Array Value} {below : List Frame} {meth : Method} {c : Code} {H : Heap} {locs : List Loc} {cells slots : Nat} {Q : State → Prop}
variable {cI cZ cB cO cR cJ : ClassId} {cc : ByteArray} {pc nL : Nat} {ls : Array Slot} {rest st0 : List Value} {D : va_G} {Hb : Heap} {K : kTx} {ad : Nat → Nat} {o : Nat → va_E} {Ts : List Cond} {own : String} {f : Nat → Int64} {sM sC : Nat → Int32} {rM rC : Nat → Nat → Int32}
theorem lM_lv {s : Nat → Int32} : lM (lvC lL0 s) := fun k hk => Or.inl ⟨Nat.lt_of_lt_of_le (mKey_lt hk) (by decide), Or.inl hk⟩
theorem hP.blind {tys : List (ClassId × FieldType)} {lv : Nat → Prop} {ce : Nat → va_E} {av : List Value} : FrameBlind (va_Pc av (hP D tys Hb K lv ad ce)) := fun a U g mk q => by
  obtain ⟨q0, q1, q2⟩ := q
  exact ⟨q0, (kP.blind (av := av) a U g mk ⟨q0, q1⟩).2, hNc.moved (u := U) (U := U.calling g mk a) (Vm.Alike.refl U.vm) q2⟩
/-- a call of a helper -/
theorem l_help {y : MethodName} {ws ws' : List Cond} {rm : Room} {mc ms n index maxL : Nat} {bytes : ByteArray} {ret : Option FieldType} {hh : List (Nat × Nat × Nat × Nat)} {cs : List String} {thr : Option String} {ov : Option Int32} {As : List Value} {s1 s2 : Nat → Int32} {r1 r2 : Nat → Nat → Int32}
    (S : kX p m c cc nL s args Ts own D (tyL cI cZ cB cO cR cJ) Hb K) (hN : hNc s) (hG : gW D Hb (lvC lL0 sC) ad (lW o ad K.2.2.1 cI cZ cB cO cR cJ f sM rM sC rC) H) (hL : gL Hb locs)
    (hM : vx_Met l y ws rm (va_Pc As (hP D (tyL cI cZ cB cO cR cJ) Hb K (lvC lL0 sC) ad (kJ (mJ (va_up o 99 (lE cJ f)) ad cI cZ sM rM) ad K.2.2.1 cI cB cO cR sC rC))) (hQ D Hb lL0 ad (mJ (va_up o 99 (lE cJ f)) ad cI cZ sM rM) K.2.2.1 cI cB cO cR cJ cs thr ov s1 r1 s2 r2) (fun _ _ _ => False) mc ms (gA Hb))
    (gd : GoodIn Ts (va_wsS own index y ws)) (hw : ws = Cond.codeWith y bytes maxL ret hh :: ws') (hrm : rm.cells = mc ∧ rm.slots = ms)
    (hd : y.cls ≠ "java/lang/invoke/MethodHandle" ∧ y.cls ≠ "java/lang/invoke/VarHandle" ∧ (parseMethodDescriptor y.desc).map (fun d => d.parameters.length) = some n) (hR : rm.frames + 1 ≤ R.frames ∧ 8 + (maxL + 11) + rm.locals ≤ R.locals)
    (hn : As.length = n) (hsize : ls.size = nL) (hst : st0 = As.reverse ++ rest) (hW : (rest.map fun v => v.category).sum ≤ 8) (hdg : decode cc pc = .ok (.invokestatic index, 3)) (hf : cells + mc ≤ R.cells ∧ slots + ms ≤ R.slots)
    (kk : ∀ (ad' : Nat → Nat) (f' : Nat → Int64) (H1 : Heap) (locs1 : List Loc) (s3 : Nat → Int32) (r3 : Nat → Nat → Int32), (∀ j, lvA lL0 j → ad' j = ad j) → gL Hb locs1 → gW D Hb (lvC lL0 s3) ad' (lW o ad' K.2.2.1 cI cZ cB cO cR cJ f' sM rM s3 r3) H1 → ((thr = none ∧ s3 = s1 ∧ r3 = r1 ∧ ∀ v, ov = some v → f' 0 = v.toInt64) ∨ (¬ thr = none ∧ s3 = s2 ∧ r3 = r2)) → W p l e R s m args below meth c H1 locs1 (cells + mc) (slots + ms) Q (F0 m (pc + 3) ls (.int (hC cs thr) :: rest))) : W p l e R s m args below meth c H locs cells slots Q (F0 m pc ls st0) := by
  have hr := vx_runSX (l := l) (e := e) (below := below) (meth := meth) (locs := locs) (cells := cells) (slots := slots) (H := H) (g := F0 m pc ls st0) S.1 hM (vx_cwSW n S.1.2.2.2.2 gd hw hrm.1 hrm.2 hd hR) ⟨hP.blind, fun U hU hW => ⟨rfl, ⟨by rw [hU]; exact hG, va_K.moved hW.alike S.2.1, kE.warm hW S.2.2⟩, hNc.moved hW.alike hN⟩⟩ rfl hn hsize hst (by show 2 * 0 + _ ≤ 8; omega) hdg hf
  intro T hT X
  rcases hr T hT X with ⟨v, st₀, t, T', L, h0, X', hLL, e1, e2, hq0, st⟩ | ⟨q, st₀, t, T', L, E, c9, h0, X', hLL, e1, e2, hX, -⟩
  · rcases hq0 with ⟨ht, ad', f', ha, hv, hov, hg⟩ | ⟨E, ht, ad', f', ha, hv, -, hg⟩
    · cases hv
      rw [lW_h ha] at hg
      obtain ⟨t2, a1, b1⟩ := kk ad' f' T'.heap (locs ++ L) s1 r1 ha (hL.app hLL) (by rw [e1]; exact hg) (Or.inl ⟨ht, rfl, rfl, hov⟩) T' rfl X'
      refine ⟨t2, st t2 ?_, b1⟩
      rw [ht] at a1
      exact a1
    · cases hv
      rw [lW_h ha] at hg
      obtain ⟨t2, a1, b1⟩ := kk ad' f' T'.heap (locs ++ L) s2 r2 ha (hL.app hLL) (by rw [e1]; exact hg) (Or.inr ⟨by rw [ht]; exact nofun, rfl, rfl⟩) T' rfl X'
      refine ⟨t2, st t2 ?_, b1⟩
      rw [ht] at a1
      exact a1
  · exact absurd hX id
/-- a call of the reference -/
theorem l_mod {y : MethodName} {ws ws' : List Cond} {n index maxL fr lo : Nat} {bytes : ByteArray} {ret : Option FieldType} {rv : Option Value} {As : List Value} {sM' : Nat → Int32} {rM' : Nat → Nat → Int32}
    (S : kX p m c cc nL s args Ts own D (tyL cI cZ cB cO cR cJ) Hb K) (hG : gW D Hb (lvC lL0 sC) ad (lW o ad K.2.2.1 cI cZ cB cO cR cJ f sM rM sC rC) H) (hL : gL Hb locs)
    (hM : mMet l D cI cZ cB cO cR cJ Hb (lvC lL0 sC) ad (kJ (va_up o 99 (lE cJ f)) ad K.2.2.1 cI cB cO cR sC rC) y ws fr lo (.ref (ad 0) :: As) sM rM rv sM' rM')
    (gd : GoodIn Ts (wsV own index RX10 y ws)) (hw : ws = Cond.code y bytes maxL ret :: ws')
    (hd : y.cls = RX10 ∧ y.cls ≠ "java/lang/invoke/MethodHandle" ∧ y.cls ≠ "java/lang/invoke/VarHandle" ∧ (parseMethodDescriptor y.desc).map (fun d => d.parameters.length) = some n) (hR : fr + 1 ≤ R.frames ∧ 8 + (maxL + 11) + lo ≤ R.locals)
    (hn : As.length = n) (hsize : ls.size = nL) (hst : st0 = As.reverse ++ .ref (ad 0) :: rest) (hW : (rest.map fun v => v.category).sum ≤ 8) (hdg : decode cc pc = .ok (.invokevirtual index, 3)) (hf : cells ≤ R.cells ∧ slots ≤ R.slots)
    (kk : ∀ (H1 : Heap) (locs1 : List Loc), gW D Hb (lvC lL0 sC) ad (lW o ad K.2.2.1 cI cZ cB cO cR cJ f sM' rM' sC rC) H1 → gL Hb locs1 → W p l e R s m args below meth c H1 locs1 cells slots Q (F0 m (pc + 3) ls (rv.toList ++ rest))) : W p l e R s m args below meth c H locs cells slots Q (F0 m pc ls st0) := by
  rw [lW_m] at hG
  refine g_callV (k := 0) (ci := 11) S.1 S.2.1 hG hL (lM_lv 0 rfl) rfl rfl hM (cwV n S.1.2.2.2.2 gd hw rfl rfl hd hR) hn hsize hst hW hdg hf (fun H1 l1 a b => kk H1 l1 ?_ b)
  rw [lW_m]
  exact a
end LRW
