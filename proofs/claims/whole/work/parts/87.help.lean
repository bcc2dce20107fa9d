/-! the law's helpers -/
theorem h_in : vp_in 0 1 := by
  unfold vp_in
  decide
theorem h_self {ce0 : Nat → va_E} {k : Nat} {x : va_E} (h : ce0 k = x) : va_up ce0 k x = ce0 := by
  funext j
  unfold va_up
  by_cases e : j = k
  · rw [if_pos e, e, h]
  · rw [if_neg e]
section HLE
variable {p : Program} {l : Launch} {e : Env} {R : Room} {s : State} {m : MethodId} {args : Array Value} {below : List Frame} {meth : Method} {c : Code} {H : Heap} {locs : List Loc} {cells slots : Nat} {Q : State → Prop}
variable {cc : ByteArray} {pc nL : Nat} {ls : Array Slot} {rest : List Value} {D : va_G} {tys : List (ClassId × FieldType)} {Hb : Heap} {lv : Nat → Prop} {ad : Nat → Nat} {ce : Nat → va_E} {Ts : List Cond} {own : String}
theorem g_lastE {b : Nat} (k : Nat) (eb : b = ad k) (S : CallFix p m c cc nL s args Ts own) (hK : va_K D vwCl tys s) (hG : gW D Hb lv ad ce H) (hL : gL Hb locs) (hk : lv k) (t0 : Nat) {cA : ClassId} {n : Nat} {f : Nat → Int64} (ha : ce k = .inl (cA, n, .inr (.inl f))) (ht : tys[t0]? = some (cA, .long)) {i : Int32} {x : Int64} (hin : vp_in i n) (hdg : decode cc pc = .ok (.lastore, 1))
    (kk : ∀ (H1 : Heap) (locs1 : List Loc), gW D Hb lv ad (va_up ce k (.inl (cA, n, .inr (.inl (vp_updL f i.toNatClampNeg x))))) H1 → gL Hb locs1 → W p l e R s m args below meth c H1 locs1 cells slots Q (F0 m (pc + 1) ls rest)) : W p l e R s m args below meth c H locs cells slots Q (F0 m pc ls (.long x :: .int i :: .ref b :: rest)) := by
  subst eb
  exact g_last S hK hG hL k hk t0 ha ht hin hdg kk
end HLE
set_option maxHeartbeats 1000000 in
theorem hl_weather {l : Launch} {D : va_G} {cI cZ cB cO cR cJ : ClassId} {Hb : Heap} {K : kTx} {l0 : Nat → Prop} {ad : Nat → Nat} {ce0 : Nat → va_E} (h99 : l0 99) {f : Nat → Int64} (hf : ce0 99 = .inl (cJ, 1, .inr (.inl f))) {rm : Room} {mc ms : Nat} (hrm : rm.cells = mc ∧ rm.slots = ms) (hfr : rm.frames ≤ 6 ∧ rm.locals ≤ 92 ∧ mc ≤ 1 ∧ ms ≤ 6) {thr : Option String} {s s1 s2 : Nat → Int32} {r r1 r2 : Nat → Nat → Int32} {a0 a1 a2 : Int32} (hthr : ∀ E, thr = some E → E ∈ (["java/lang/IndexOutOfBoundsException", "java/lang/IllegalArgumentException", "java/lang/IllegalStateException"] : List String))
    (hM : vx_Met l yX9_weather wsX9_weather rm (va_Pc [.ref (ad 100), .int a0, .int a1, .int a2] (kP D (tyL cI cZ cB cO cR cJ) Hb K (lvC l0 s) ad (kJ ce0 ad K.2.2.1 cI cB cO cR s r))) (cQ D Hb l0 ad thr none ce0 K.2.2.1 cI cB cO cR s1 r1) (cX D Hb l0 ad thr ce0 K.2.2.1 cI cB cO cR s2 r2) mc ms (gA Hb)) :
    vx_Met l yL_weather wsL_weather { frames := 7, cells := 1, slots := 6, locals := 115 } (va_Pc [.ref (ad 100), .int a0, .int a1, .int a2] (hP D (tyL cI cZ cB cO cR cJ) Hb K (lvC l0 s) ad (kJ ce0 ad K.2.2.1 cI cB cO cR s r))) (hQ D Hb l0 ad ce0 K.2.2.1 cI cB cO cR cJ ["java/lang/IndexOutOfBoundsException", "java/lang/IllegalArgumentException", "java/lang/IllegalStateException"] thr none s1 r1 s2 r2) (fun _ _ _ => False) 1 6 (gA Hb) := by
  refine vx_ofWH (cc := cL_weather) (maxL := 5) (ret := (some .int)) (hh := [(0, 7, 10, 13), (0, 7, 14, 15), (0, 7, 18, 17)]) (by decide) rfl ?_
  intro p0 e0 s0 m0 args below meth c0 s₁ B hml hv
  obtain ⟨rfl, ⟨hG, hK, hE⟩, hN⟩ := hv
  have hx := B.exec
  have hb := B.bytes
  have hr := B.returns
  have hts := atoms_spec (ws := wsL_weather) B.pre
  have htab := vx_table (x := yL_weather) B (hts _ List.mem_cons_self)
  have hown : s0.vm.findClass RL = some m0.cls := findClass_of_methodNamed B.named
  have hlocks := B.notSynchronized
  have S : kX p0 m0 c0 cL_weather 5 s0 _ wsL_weather RL D (tyL cI cZ cB cO cR cJ) Hb K := ⟨⟨hx, hb, hml, hown, hts⟩, hK, hE⟩
  have hL : gL Hb [] := gL.nil
  have hlv : kL (lvC l0 s) s := lvC_L
  have hl := lv_entry ([.ref (ad 100), .int a0, .int a1, .int a2]) (n := 5) (Nat.le_of_ble_eq_true rfl)
  rw [lg_entry_eq]
  generalize (lg_sl ([.ref (ad 100), .int a0, .int a1, .int a2]) ++ List.replicate (5 - (lg_sl ([.ref (ad 100), .int a0, .int a1, .int a2])).length) Slot.unset).toArray = ls at hl ⊢
  have hl : lv_has ls 5 [(0, .ref (ad 100)), (1, .int a0), (2, .int a1), (3, .int a2)] := hl
  refine lv_aload_n hx hb dL_weather_0 rfl (lv_at hl 0 rfl) ?_
  refine lv_iload_n hx hb dL_weather_1 rfl (lv_at hl 1 rfl) ?_
  refine lv_iload_n hx hb dL_weather_2 rfl (lv_at hl 2 rfl) ?_
  refine lv_iload_n hx hb dL_weather_3 rfl (lv_at hl 3 rfl) ?_
  refine h_call (n := 3) (As := [.int a0, .int a1, .int a2]) (rest := []) (k := 100) (ci := 10) S hG hL (hlv.f (by decide) (by decide)) rfl rfl hM gL_weather_X9_weather rfl hrm (by decide +kernel) ⟨by { show rm.frames + 1 ≤ 7; omega }, by { show 8 + (4 + 11) + rm.locals ≤ 115; omega }⟩ rfl hl.1 rfl (Nat.le_of_ble_eq_true rfl) dL_weather_4 ⟨by { show 0 + mc ≤ 1; omega }, by { show 0 + ms ≤ 6; omega }⟩ (fun ht9 ad1 H1 locs1 ha hG1 hL1 => ?_) (fun E hE9 H1 locs1 q c9 hG1 hL1 hc1 hv1 hf1 => ?_)
  ·
    have hL2 := hL1
    have hG3 := hG1
    refine lv_goto (tgt := 22) hx hb dL_weather_7 (by decide) ?_
    refine lv_iconst (v := 0) hx hb dL_weather_22 (by decide) ?_
    exact h_iret S.1 hr hlocks hL2 (fun t ht => Or.inl ⟨ht9, ⟨ad1, f, ha, rfl, (fun v9 h9 => nomatch h9), by { rw [ht, h_self hf]; exact hG3 }⟩⟩) dL_weather_23 (by omega) (by omega)
  ·
    have hin := hthr E hE9
    rcases List.mem_cons.mp hin with rfl | hin
    ·
      refine vx_catch (own := RL) (name := "java/lang/IndexOutOfBoundsException") (E := "java/lang/IndexOutOfBoundsException") hown [] ⟨0, 7, 10, 13⟩ [⟨0, 7, 14, 15⟩, ⟨0, 7, 18, 17⟩] (by rw [htab]; rfl) (fun z hz => absurd hz List.not_mem_nil) (by decide) (by decide) (hts (.classLink RL 13 "java/lang/IndexOutOfBoundsException") (by decide +kernel)) (va_Nw.use rfl (hE.2.2.1 ("java/lang/IndexOutOfBoundsException", "java/lang/IndexOutOfBoundsException") (by decide +kernel))) hc1 hv1 hf1 ?_
      refine lv_astore (lv' := [(4, .ref q), (0, .ref (ad 100)), (1, .int a0), (2, .int a1), (3, .int a2)]) hx hb dL_weather_10 hl (by decide) rfl (fun ls9 hl9 => ?_)
      refine lv_iconst (v := 1) hx hb dL_weather_12 (by decide) ?_
      exact h_iret S.1 hr hlocks hL1 (fun t ht => Or.inr ⟨"java/lang/IndexOutOfBoundsException", hE9, ad, f, fun _ _ => rfl, congrArg (fun z => Outcome.returned (some (Value.int z))) (show (1 : Int32) = hKd ["java/lang/IndexOutOfBoundsException", "java/lang/IllegalArgumentException", "java/lang/IllegalStateException"] "java/lang/IndexOutOfBoundsException" from by decide +kernel), (fun v9 h9 => nomatch h9), by { rw [ht, h_self hf]; exact hG1 }⟩) dL_weather_13 (by omega) (by omega)
    ·
      rcases List.mem_cons.mp hin with rfl | hin
      ·
        refine vx_catch (own := RL) (name := "java/lang/IllegalArgumentException") (E := "java/lang/IllegalArgumentException") hown [⟨0, 7, 10, 13⟩] ⟨0, 7, 14, 15⟩ [⟨0, 7, 18, 17⟩] (by rw [htab]; rfl) (fun z hz => (List.mem_cons.mp hz).elim (fun e9 => by { subst e9; exact Or.inr ⟨by decide, "java/lang/IndexOutOfBoundsException", hts (.classLink RL 13 "java/lang/IndexOutOfBoundsException") (by decide +kernel), hN _ (by decide) _ (by decide) (by decide)⟩ }) (fun hz => absurd hz List.not_mem_nil)) (by decide) (by decide) (hts (.classLink RL 15 "java/lang/IllegalArgumentException") (by decide +kernel)) (va_Nw.use rfl (hE.2.2.1 ("java/lang/IllegalArgumentException", "java/lang/IllegalArgumentException") (by decide +kernel))) hc1 hv1 hf1 ?_
        refine lv_astore (lv' := [(4, .ref q), (0, .ref (ad 100)), (1, .int a0), (2, .int a1), (3, .int a2)]) hx hb dL_weather_14 hl (by decide) rfl (fun ls9 hl9 => ?_)
        refine lv_iconst (v := 2) hx hb dL_weather_16 (by decide) ?_
        exact h_iret S.1 hr hlocks hL1 (fun t ht => Or.inr ⟨"java/lang/IllegalArgumentException", hE9, ad, f, fun _ _ => rfl, congrArg (fun z => Outcome.returned (some (Value.int z))) (show (2 : Int32) = hKd ["java/lang/IndexOutOfBoundsException", "java/lang/IllegalArgumentException", "java/lang/IllegalStateException"] "java/lang/IllegalArgumentException" from by decide +kernel), (fun v9 h9 => nomatch h9), by { rw [ht, h_self hf]; exact hG1 }⟩) dL_weather_17 (by omega) (by omega)
      ·
        cases List.mem_singleton.mp hin
        refine vx_catch (own := RL) (name := "java/lang/IllegalStateException") (E := "java/lang/IllegalStateException") hown [⟨0, 7, 10, 13⟩, ⟨0, 7, 14, 15⟩] ⟨0, 7, 18, 17⟩ [] (by rw [htab]; rfl) (fun z hz => (List.mem_cons.mp hz).elim (fun e9 => by { subst e9; exact Or.inr ⟨by decide, "java/lang/IndexOutOfBoundsException", hts (.classLink RL 13 "java/lang/IndexOutOfBoundsException") (by decide +kernel), hN _ (by decide) _ (by decide) (by decide)⟩ }) (fun hz => (List.mem_cons.mp hz).elim (fun e9 => by { subst e9; exact Or.inr ⟨by decide, "java/lang/IllegalArgumentException", hts (.classLink RL 15 "java/lang/IllegalArgumentException") (by decide +kernel), hN _ (by decide) _ (by decide) (by decide)⟩ }) (fun hz => absurd hz List.not_mem_nil))) (by decide) (by decide) (hts (.classLink RL 17 "java/lang/IllegalStateException") (by decide +kernel)) (va_Nw.use rfl (hE.2.2.1 ("java/lang/IllegalStateException", "java/lang/IllegalStateException") (by decide +kernel))) hc1 hv1 hf1 ?_
        refine lv_astore (lv' := [(4, .ref q), (0, .ref (ad 100)), (1, .int a0), (2, .int a1), (3, .int a2)]) hx hb dL_weather_18 hl (by decide) rfl (fun ls9 hl9 => ?_)
        refine lv_iconst (v := 3) hx hb dL_weather_20 (by decide) ?_
        exact h_iret S.1 hr hlocks hL1 (fun t ht => Or.inr ⟨"java/lang/IllegalStateException", hE9, ad, f, fun _ _ => rfl, congrArg (fun z => Outcome.returned (some (Value.int z))) (show (3 : Int32) = hKd ["java/lang/IndexOutOfBoundsException", "java/lang/IllegalArgumentException", "java/lang/IllegalStateException"] "java/lang/IllegalStateException" from by decide +kernel), (fun v9 h9 => nomatch h9), by { rw [ht, h_self hf]; exact hG1 }⟩) dL_weather_21 (by omega) (by omega)
set_option maxHeartbeats 1000000 in
theorem hl_foretell {l : Launch} {D : va_G} {cI cZ cB cO cR cJ : ClassId} {Hb : Heap} {K : kTx} {l0 : Nat → Prop} {ad : Nat → Nat} {ce0 : Nat → va_E} (h99 : l0 99) {f : Nat → Int64} (hf : ce0 99 = .inl (cJ, 1, .inr (.inl f))) {rm : Room} {mc ms : Nat} (hrm : rm.cells = mc ∧ rm.slots = ms) (hfr : rm.frames ≤ 6 ∧ rm.locals ≤ 92 ∧ mc ≤ 1 ∧ ms ≤ 6) {thr : Option String} {s s1 s2 : Nat → Int32} {r r1 r2 : Nat → Nat → Int32} {a0 a1 a2 : Int32} (hthr : ∀ E, thr = some E → E ∈ (["java/lang/IndexOutOfBoundsException", "java/lang/IllegalArgumentException"] : List String))
    (hM : vx_Met l yX9_foretell wsX9_foretell rm (va_Pc [.ref (ad 100), .int a0, .int a1, .int a2] (kP D (tyL cI cZ cB cO cR cJ) Hb K (lvC l0 s) ad (kJ ce0 ad K.2.2.1 cI cB cO cR s r))) (cQ D Hb l0 ad thr none ce0 K.2.2.1 cI cB cO cR s1 r1) (cX D Hb l0 ad thr ce0 K.2.2.1 cI cB cO cR s2 r2) mc ms (gA Hb)) :
    vx_Met l yL_foretell wsL_foretell { frames := 7, cells := 1, slots := 6, locals := 115 } (va_Pc [.ref (ad 100), .int a0, .int a1, .int a2] (hP D (tyL cI cZ cB cO cR cJ) Hb K (lvC l0 s) ad (kJ ce0 ad K.2.2.1 cI cB cO cR s r))) (hQ D Hb l0 ad ce0 K.2.2.1 cI cB cO cR cJ ["java/lang/IndexOutOfBoundsException", "java/lang/IllegalArgumentException"] thr none s1 r1 s2 r2) (fun _ _ _ => False) 1 6 (gA Hb) := by
  refine vx_ofWH (cc := cL_foretell) (maxL := 5) (ret := (some .int)) (hh := [(0, 7, 10, 13), (0, 7, 14, 15)]) (by decide) rfl ?_
  intro p0 e0 s0 m0 args below meth c0 s₁ B hml hv
  obtain ⟨rfl, ⟨hG, hK, hE⟩, hN⟩ := hv
  have hx := B.exec
  have hb := B.bytes
  have hr := B.returns
  have hts := atoms_spec (ws := wsL_foretell) B.pre
  have htab := vx_table (x := yL_foretell) B (hts _ List.mem_cons_self)
  have hown : s0.vm.findClass RL = some m0.cls := findClass_of_methodNamed B.named
  have hlocks := B.notSynchronized
  have S : kX p0 m0 c0 cL_foretell 5 s0 _ wsL_foretell RL D (tyL cI cZ cB cO cR cJ) Hb K := ⟨⟨hx, hb, hml, hown, hts⟩, hK, hE⟩
  have hL : gL Hb [] := gL.nil
  have hlv : kL (lvC l0 s) s := lvC_L
  have hl := lv_entry ([.ref (ad 100), .int a0, .int a1, .int a2]) (n := 5) (Nat.le_of_ble_eq_true rfl)
  rw [lg_entry_eq]
  generalize (lg_sl ([.ref (ad 100), .int a0, .int a1, .int a2]) ++ List.replicate (5 - (lg_sl ([.ref (ad 100), .int a0, .int a1, .int a2])).length) Slot.unset).toArray = ls at hl ⊢
  have hl : lv_has ls 5 [(0, .ref (ad 100)), (1, .int a0), (2, .int a1), (3, .int a2)] := hl
  refine lv_aload_n hx hb dL_foretell_0 rfl (lv_at hl 0 rfl) ?_
  refine lv_iload_n hx hb dL_foretell_1 rfl (lv_at hl 1 rfl) ?_
  refine lv_iload_n hx hb dL_foretell_2 rfl (lv_at hl 2 rfl) ?_
  refine lv_iload_n hx hb dL_foretell_3 rfl (lv_at hl 3 rfl) ?_
  refine h_call (n := 3) (As := [.int a0, .int a1, .int a2]) (rest := []) (k := 100) (ci := 10) S hG hL (hlv.f (by decide) (by decide)) rfl rfl hM gL_foretell_X9_foretell rfl hrm (by decide +kernel) ⟨by { show rm.frames + 1 ≤ 7; omega }, by { show 8 + (4 + 11) + rm.locals ≤ 115; omega }⟩ rfl hl.1 rfl (Nat.le_of_ble_eq_true rfl) dL_foretell_4 ⟨by { show 0 + mc ≤ 1; omega }, by { show 0 + ms ≤ 6; omega }⟩ (fun ht9 ad1 H1 locs1 ha hG1 hL1 => ?_) (fun E hE9 H1 locs1 q c9 hG1 hL1 hc1 hv1 hf1 => ?_)
  ·
    have hL2 := hL1
    have hG3 := hG1
    refine lv_goto (tgt := 18) hx hb dL_foretell_7 (by decide) ?_
    refine lv_iconst (v := 0) hx hb dL_foretell_18 (by decide) ?_
    exact h_iret S.1 hr hlocks hL2 (fun t ht => Or.inl ⟨ht9, ⟨ad1, f, ha, rfl, (fun v9 h9 => nomatch h9), by { rw [ht, h_self hf]; exact hG3 }⟩⟩) dL_foretell_19 (by omega) (by omega)
  ·
    have hin := hthr E hE9
    rcases List.mem_cons.mp hin with rfl | hin
    ·
      refine vx_catch (own := RL) (name := "java/lang/IndexOutOfBoundsException") (E := "java/lang/IndexOutOfBoundsException") hown [] ⟨0, 7, 10, 13⟩ [⟨0, 7, 14, 15⟩] (by rw [htab]; rfl) (fun z hz => absurd hz List.not_mem_nil) (by decide) (by decide) (hts (.classLink RL 13 "java/lang/IndexOutOfBoundsException") (by decide +kernel)) (va_Nw.use rfl (hE.2.2.1 ("java/lang/IndexOutOfBoundsException", "java/lang/IndexOutOfBoundsException") (by decide +kernel))) hc1 hv1 hf1 ?_
      refine lv_astore (lv' := [(4, .ref q), (0, .ref (ad 100)), (1, .int a0), (2, .int a1), (3, .int a2)]) hx hb dL_foretell_10 hl (by decide) rfl (fun ls9 hl9 => ?_)
      refine lv_iconst (v := 1) hx hb dL_foretell_12 (by decide) ?_
      exact h_iret S.1 hr hlocks hL1 (fun t ht => Or.inr ⟨"java/lang/IndexOutOfBoundsException", hE9, ad, f, fun _ _ => rfl, congrArg (fun z => Outcome.returned (some (Value.int z))) (show (1 : Int32) = hKd ["java/lang/IndexOutOfBoundsException", "java/lang/IllegalArgumentException"] "java/lang/IndexOutOfBoundsException" from by decide +kernel), (fun v9 h9 => nomatch h9), by { rw [ht, h_self hf]; exact hG1 }⟩) dL_foretell_13 (by omega) (by omega)
    ·
      cases List.mem_singleton.mp hin
      refine vx_catch (own := RL) (name := "java/lang/IllegalArgumentException") (E := "java/lang/IllegalArgumentException") hown [⟨0, 7, 10, 13⟩] ⟨0, 7, 14, 15⟩ [] (by rw [htab]; rfl) (fun z hz => (List.mem_cons.mp hz).elim (fun e9 => by { subst e9; exact Or.inr ⟨by decide, "java/lang/IndexOutOfBoundsException", hts (.classLink RL 13 "java/lang/IndexOutOfBoundsException") (by decide +kernel), hN _ (by decide) _ (by decide) (by decide)⟩ }) (fun hz => absurd hz List.not_mem_nil)) (by decide) (by decide) (hts (.classLink RL 15 "java/lang/IllegalArgumentException") (by decide +kernel)) (va_Nw.use rfl (hE.2.2.1 ("java/lang/IllegalArgumentException", "java/lang/IllegalArgumentException") (by decide +kernel))) hc1 hv1 hf1 ?_
      refine lv_astore (lv' := [(4, .ref q), (0, .ref (ad 100)), (1, .int a0), (2, .int a1), (3, .int a2)]) hx hb dL_foretell_14 hl (by decide) rfl (fun ls9 hl9 => ?_)
      refine lv_iconst (v := 2) hx hb dL_foretell_16 (by decide) ?_
      exact h_iret S.1 hr hlocks hL1 (fun t ht => Or.inr ⟨"java/lang/IllegalArgumentException", hE9, ad, f, fun _ _ => rfl, congrArg (fun z => Outcome.returned (some (Value.int z))) (show (2 : Int32) = hKd ["java/lang/IndexOutOfBoundsException", "java/lang/IllegalArgumentException"] "java/lang/IllegalArgumentException" from by decide +kernel), (fun v9 h9 => nomatch h9), by { rw [ht, h_self hf]; exact hG1 }⟩) dL_foretell_17 (by omega) (by omega)
set_option maxHeartbeats 1000000 in
theorem hl_hive {l : Launch} {D : va_G} {cI cZ cB cO cR cJ : ClassId} {Hb : Heap} {K : kTx} {l0 : Nat → Prop} {ad : Nat → Nat} {ce0 : Nat → va_E} (h99 : l0 99) {f : Nat → Int64} (hf : ce0 99 = .inl (cJ, 1, .inr (.inl f))) {rm : Room} {mc ms : Nat} (hrm : rm.cells = mc ∧ rm.slots = ms) (hfr : rm.frames ≤ 7 ∧ rm.locals ≤ 180 ∧ mc ≤ 2 ∧ ms ≤ 90) {thr : Option String} {v : Int32} {s s1 s2 : Nat → Int32} {r r1 r2 : Nat → Nat → Int32} {a0 a1 a2 a3 a4 : Int32} (hthr : ∀ E, thr = some E → E ∈ (["java/lang/IllegalArgumentException", "java/lang/UnsupportedOperationException"] : List String))
    (hM : vx_Met l yX9_hive wsX9_hive rm (va_Pc [.ref (ad 100), .int a0, .int a1, .int a2, .int a3, .int a4] (kP D (tyL cI cZ cB cO cR cJ) Hb K (lvC l0 s) ad (kJ ce0 ad K.2.2.1 cI cB cO cR s r))) (cQ D Hb l0 ad thr (some (.int v)) ce0 K.2.2.1 cI cB cO cR s1 r1) (cX D Hb l0 ad thr ce0 K.2.2.1 cI cB cO cR s2 r2) mc ms (gA Hb)) :
    vx_Met l yL_hive wsL_hive { frames := 8, cells := 2, slots := 90, locals := 205 } (va_Pc [.ref (ad 100), .int a0, .int a1, .int a2, .int a3, .int a4, .ref (ad 99)] (hP D (tyL cI cZ cB cO cR cJ) Hb K (lvC l0 s) ad (kJ ce0 ad K.2.2.1 cI cB cO cR s r))) (hQ D Hb l0 ad ce0 K.2.2.1 cI cB cO cR cJ ["java/lang/IllegalArgumentException", "java/lang/UnsupportedOperationException"] thr (some v) s1 r1 s2 r2) (fun _ _ _ => False) 2 90 (gA Hb) := by
  refine vx_ofWH (cc := cL_hive) (maxL := 8) (ret := (some .int)) (hh := [(0, 16, 19, 15), (0, 16, 23, 26)]) (by decide) rfl ?_
  intro p0 e0 s0 m0 args below meth c0 s₁ B hml hv
  obtain ⟨rfl, ⟨hG, hK, hE⟩, hN⟩ := hv
  have hx := B.exec
  have hb := B.bytes
  have hr := B.returns
  have hts := atoms_spec (ws := wsL_hive) B.pre
  have htab := vx_table (x := yL_hive) B (hts _ List.mem_cons_self)
  have hown : s0.vm.findClass RL = some m0.cls := findClass_of_methodNamed B.named
  have hlocks := B.notSynchronized
  have S : kX p0 m0 c0 cL_hive 8 s0 _ wsL_hive RL D (tyL cI cZ cB cO cR cJ) Hb K := ⟨⟨hx, hb, hml, hown, hts⟩, hK, hE⟩
  have hL : gL Hb [] := gL.nil
  have hlv : kL (lvC l0 s) s := lvC_L
  have hl := lv_entry ([.ref (ad 100), .int a0, .int a1, .int a2, .int a3, .int a4, .ref (ad 99)]) (n := 8) (Nat.le_of_ble_eq_true rfl)
  rw [lg_entry_eq]
  generalize (lg_sl ([.ref (ad 100), .int a0, .int a1, .int a2, .int a3, .int a4, .ref (ad 99)]) ++ List.replicate (8 - (lg_sl ([.ref (ad 100), .int a0, .int a1, .int a2, .int a3, .int a4, .ref (ad 99)])).length) Slot.unset).toArray = ls at hl ⊢
  have hl : lv_has ls 8 [(0, .ref (ad 100)), (1, .int a0), (2, .int a1), (3, .int a2), (4, .int a3), (5, .int a4), (6, .ref (ad 99))] := hl
  refine lv_aload hx hb dL_hive_0 (lv_at hl 6 rfl) ?_
  refine lv_iconst (v := 0) hx hb dL_hive_2 (by decide) ?_
  refine lv_aload_n hx hb dL_hive_3 rfl (lv_at hl 0 rfl) ?_
  refine lv_iload_n hx hb dL_hive_4 rfl (lv_at hl 1 rfl) ?_
  refine lv_iload_n hx hb dL_hive_5 rfl (lv_at hl 2 rfl) ?_
  refine lv_iload_n hx hb dL_hive_6 rfl (lv_at hl 3 rfl) ?_
  refine lv_iload hx hb dL_hive_7 (lv_at hl 4 rfl) ?_
  refine lv_iload hx hb dL_hive_9 (lv_at hl 5 rfl) ?_
  refine h_call (n := 5) (As := [.int a0, .int a1, .int a2, .int a3, .int a4]) (rest := [.int 0, .ref (ad 99)]) (k := 100) (ci := 10) S hG hL (hlv.f (by decide) (by decide)) rfl rfl hM gL_hive_X9_hive rfl hrm (by decide +kernel) ⟨by { show rm.frames + 1 ≤ 8; omega }, by { show 8 + (6 + 11) + rm.locals ≤ 205; omega }⟩ rfl hl.1 rfl (Nat.le_of_ble_eq_true rfl) dL_hive_11 ⟨by { show 0 + mc ≤ 2; omega }, by { show 0 + ms ≤ 90; omega }⟩ (fun ht9 ad1 H1 locs1 ha hG1 hL1 => ?_) (fun E hE9 H1 locs1 q c9 hG1 hL1 hc1 hv1 hf1 => ?_)
  ·
    have e99 : ad 99 = ad1 99 := (ha 99 (Or.inl ⟨by decide, h99⟩)).symm
    refine lv_i2l hx hb dL_hive_14 rfl ?_
    refine g_lastE (ad := ad1) 99 e99 S.1 hK hG1 hL1 (Or.inl ⟨by decide, h99⟩) 5 ((if_pos (by decide)).trans hf) rfl h_in dL_hive_15 (fun H2 locs2 hG2 hL2 => ?_)
    have hG3 := hG2
    rw [kJ_99] at hG3
    refine lv_goto (tgt := 27) hx hb dL_hive_16 (by decide) ?_
    refine lv_iconst (v := 0) hx hb dL_hive_27 (by decide) ?_
    exact h_iret S.1 hr hlocks hL2 (fun t ht => Or.inl ⟨ht9, ⟨ad1, vp_updL f (Int32.toNatClampNeg 0) v.toInt64, ha, rfl, fun v9 h9 => by { cases h9; rfl }, by { rw [ht]; exact hG3 }⟩⟩) dL_hive_28 (by omega) (by omega)
  ·
    have hin := hthr E hE9
    rcases List.mem_cons.mp hin with rfl | hin
    ·
      refine vx_catch (own := RL) (name := "java/lang/IllegalArgumentException") (E := "java/lang/IllegalArgumentException") hown [] ⟨0, 16, 19, 15⟩ [⟨0, 16, 23, 26⟩] (by rw [htab]; rfl) (fun z hz => absurd hz List.not_mem_nil) (by decide) (by decide) (hts (.classLink RL 15 "java/lang/IllegalArgumentException") (by decide +kernel)) (va_Nw.use rfl (hE.2.2.1 ("java/lang/IllegalArgumentException", "java/lang/IllegalArgumentException") (by decide +kernel))) hc1 hv1 hf1 ?_
      refine lv_astore (lv' := [(7, .ref q), (0, .ref (ad 100)), (1, .int a0), (2, .int a1), (3, .int a2), (4, .int a3), (5, .int a4), (6, .ref (ad 99))]) hx hb dL_hive_19 hl (by decide) rfl (fun ls9 hl9 => ?_)
      refine lv_iconst (v := 1) hx hb dL_hive_21 (by decide) ?_
      exact h_iret S.1 hr hlocks hL1 (fun t ht => Or.inr ⟨"java/lang/IllegalArgumentException", hE9, ad, f, fun _ _ => rfl, congrArg (fun z => Outcome.returned (some (Value.int z))) (show (1 : Int32) = hKd ["java/lang/IllegalArgumentException", "java/lang/UnsupportedOperationException"] "java/lang/IllegalArgumentException" from by decide +kernel), (fun v9 h9 => nomatch h9), by { rw [ht, h_self hf]; exact hG1 }⟩) dL_hive_22 (by omega) (by omega)
    ·
      cases List.mem_singleton.mp hin
      refine vx_catch (own := RL) (name := "java/lang/UnsupportedOperationException") (E := "java/lang/UnsupportedOperationException") hown [⟨0, 16, 19, 15⟩] ⟨0, 16, 23, 26⟩ [] (by rw [htab]; rfl) (fun z hz => (List.mem_cons.mp hz).elim (fun e9 => by { subst e9; exact Or.inr ⟨by decide, "java/lang/IllegalArgumentException", hts (.classLink RL 15 "java/lang/IllegalArgumentException") (by decide +kernel), hN _ (by decide) _ (by decide) (by decide)⟩ }) (fun hz => absurd hz List.not_mem_nil)) (by decide) (by decide) (hts (.classLink RL 26 "java/lang/UnsupportedOperationException") (by decide +kernel)) (va_Nw.use rfl (hE.2.2.1 ("java/lang/UnsupportedOperationException", "java/lang/UnsupportedOperationException") (by decide +kernel))) hc1 hv1 hf1 ?_
      refine lv_astore (lv' := [(7, .ref q), (0, .ref (ad 100)), (1, .int a0), (2, .int a1), (3, .int a2), (4, .int a3), (5, .int a4), (6, .ref (ad 99))]) hx hb dL_hive_23 hl (by decide) rfl (fun ls9 hl9 => ?_)
      refine lv_iconst (v := 2) hx hb dL_hive_25 (by decide) ?_
      exact h_iret S.1 hr hlocks hL1 (fun t ht => Or.inr ⟨"java/lang/UnsupportedOperationException", hE9, ad, f, fun _ _ => rfl, congrArg (fun z => Outcome.returned (some (Value.int z))) (show (2 : Int32) = hKd ["java/lang/IllegalArgumentException", "java/lang/UnsupportedOperationException"] "java/lang/UnsupportedOperationException" from by decide +kernel), (fun v9 h9 => nomatch h9), by { rw [ht, h_self hf]; exact hG1 }⟩) dL_hive_26 (by omega) (by omega)
set_option maxHeartbeats 1000000 in
theorem hl_keeper {l : Launch} {D : va_G} {cI cZ cB cO cR cJ : ClassId} {Hb : Heap} {K : kTx} {l0 : Nat → Prop} {ad : Nat → Nat} {ce0 : Nat → va_E} (h99 : l0 99) {f : Nat → Int64} (hf : ce0 99 = .inl (cJ, 1, .inr (.inl f))) {rm : Room} {mc ms : Nat} (hrm : rm.cells = mc ∧ rm.slots = ms) (hfr : rm.frames ≤ 7 ∧ rm.locals ≤ 180 ∧ mc ≤ 2 ∧ ms ≤ 90) {thr : Option String} {v : Int32} {s s1 s2 : Nat → Int32} {r r1 r2 : Nat → Nat → Int32} {a0 a1 a2 a3 a4 a5 a6 : Int32} (hthr : ∀ E, thr = some E → E ∈ (["java/lang/IllegalArgumentException", "java/lang/UnsupportedOperationException"] : List String))
    (hM : vx_Met l yX9_keeper wsX9_keeper rm (va_Pc [.ref (ad 100), .int a0, .int a1, .int a2, .int a3, .int a4, .int a5, .int a6] (kP D (tyL cI cZ cB cO cR cJ) Hb K (lvC l0 s) ad (kJ ce0 ad K.2.2.1 cI cB cO cR s r))) (cQ D Hb l0 ad thr (some (.int v)) ce0 K.2.2.1 cI cB cO cR s1 r1) (cX D Hb l0 ad thr ce0 K.2.2.1 cI cB cO cR s2 r2) mc ms (gA Hb)) :
    vx_Met l yL_keeper wsL_keeper { frames := 8, cells := 2, slots := 90, locals := 207 } (va_Pc [.ref (ad 100), .int a0, .int a1, .int a2, .int a3, .int a4, .int a5, .int a6, .ref (ad 99)] (hP D (tyL cI cZ cB cO cR cJ) Hb K (lvC l0 s) ad (kJ ce0 ad K.2.2.1 cI cB cO cR s r))) (hQ D Hb l0 ad ce0 K.2.2.1 cI cB cO cR cJ ["java/lang/IllegalArgumentException", "java/lang/UnsupportedOperationException"] thr (some v) s1 r1 s2 r2) (fun _ _ _ => False) 2 90 (gA Hb) := by
  refine vx_ofWH (cc := cL_keeper) (maxL := 10) (ret := (some .int)) (hh := [(0, 20, 23, 15), (0, 20, 27, 26)]) (by decide) rfl ?_
  intro p0 e0 s0 m0 args below meth c0 s₁ B hml hv
  obtain ⟨rfl, ⟨hG, hK, hE⟩, hN⟩ := hv
  have hx := B.exec
  have hb := B.bytes
  have hr := B.returns
  have hts := atoms_spec (ws := wsL_keeper) B.pre
  have htab := vx_table (x := yL_keeper) B (hts _ List.mem_cons_self)
  have hown : s0.vm.findClass RL = some m0.cls := findClass_of_methodNamed B.named
  have hlocks := B.notSynchronized
  have S : kX p0 m0 c0 cL_keeper 10 s0 _ wsL_keeper RL D (tyL cI cZ cB cO cR cJ) Hb K := ⟨⟨hx, hb, hml, hown, hts⟩, hK, hE⟩
  have hL : gL Hb [] := gL.nil
  have hlv : kL (lvC l0 s) s := lvC_L
  have hl := lv_entry ([.ref (ad 100), .int a0, .int a1, .int a2, .int a3, .int a4, .int a5, .int a6, .ref (ad 99)]) (n := 10) (Nat.le_of_ble_eq_true rfl)
  rw [lg_entry_eq]
  generalize (lg_sl ([.ref (ad 100), .int a0, .int a1, .int a2, .int a3, .int a4, .int a5, .int a6, .ref (ad 99)]) ++ List.replicate (10 - (lg_sl ([.ref (ad 100), .int a0, .int a1, .int a2, .int a3, .int a4, .int a5, .int a6, .ref (ad 99)])).length) Slot.unset).toArray = ls at hl ⊢
  have hl : lv_has ls 10 [(0, .ref (ad 100)), (1, .int a0), (2, .int a1), (3, .int a2), (4, .int a3), (5, .int a4), (6, .int a5), (7, .int a6), (8, .ref (ad 99))] := hl
  refine lv_aload hx hb dL_keeper_0 (lv_at hl 8 rfl) ?_
  refine lv_iconst (v := 0) hx hb dL_keeper_2 (by decide) ?_
  refine lv_aload_n hx hb dL_keeper_3 rfl (lv_at hl 0 rfl) ?_
  refine lv_iload_n hx hb dL_keeper_4 rfl (lv_at hl 1 rfl) ?_
  refine lv_iload_n hx hb dL_keeper_5 rfl (lv_at hl 2 rfl) ?_
  refine lv_iload_n hx hb dL_keeper_6 rfl (lv_at hl 3 rfl) ?_
  refine lv_iload hx hb dL_keeper_7 (lv_at hl 4 rfl) ?_
  refine lv_iload hx hb dL_keeper_9 (lv_at hl 5 rfl) ?_
  refine lv_iload hx hb dL_keeper_11 (lv_at hl 6 rfl) ?_
  refine lv_iload hx hb dL_keeper_13 (lv_at hl 7 rfl) ?_
  refine h_call (n := 7) (As := [.int a0, .int a1, .int a2, .int a3, .int a4, .int a5, .int a6]) (rest := [.int 0, .ref (ad 99)]) (k := 100) (ci := 10) S hG hL (hlv.f (by decide) (by decide)) rfl rfl hM gL_keeper_X9_keeper rfl hrm (by decide +kernel) ⟨by { show rm.frames + 1 ≤ 8; omega }, by { show 8 + (8 + 11) + rm.locals ≤ 207; omega }⟩ rfl hl.1 rfl (Nat.le_of_ble_eq_true rfl) dL_keeper_15 ⟨by { show 0 + mc ≤ 2; omega }, by { show 0 + ms ≤ 90; omega }⟩ (fun ht9 ad1 H1 locs1 ha hG1 hL1 => ?_) (fun E hE9 H1 locs1 q c9 hG1 hL1 hc1 hv1 hf1 => ?_)
  ·
    have e99 : ad 99 = ad1 99 := (ha 99 (Or.inl ⟨by decide, h99⟩)).symm
    refine lv_i2l hx hb dL_keeper_18 rfl ?_
    refine g_lastE (ad := ad1) 99 e99 S.1 hK hG1 hL1 (Or.inl ⟨by decide, h99⟩) 5 ((if_pos (by decide)).trans hf) rfl h_in dL_keeper_19 (fun H2 locs2 hG2 hL2 => ?_)
    have hG3 := hG2
    rw [kJ_99] at hG3
    refine lv_goto (tgt := 31) hx hb dL_keeper_20 (by decide) ?_
    refine lv_iconst (v := 0) hx hb dL_keeper_31 (by decide) ?_
    exact h_iret S.1 hr hlocks hL2 (fun t ht => Or.inl ⟨ht9, ⟨ad1, vp_updL f (Int32.toNatClampNeg 0) v.toInt64, ha, rfl, fun v9 h9 => by { cases h9; rfl }, by { rw [ht]; exact hG3 }⟩⟩) dL_keeper_32 (by omega) (by omega)
  ·
    have hin := hthr E hE9
    rcases List.mem_cons.mp hin with rfl | hin
    ·
      refine vx_catch (own := RL) (name := "java/lang/IllegalArgumentException") (E := "java/lang/IllegalArgumentException") hown [] ⟨0, 20, 23, 15⟩ [⟨0, 20, 27, 26⟩] (by rw [htab]; rfl) (fun z hz => absurd hz List.not_mem_nil) (by decide) (by decide) (hts (.classLink RL 15 "java/lang/IllegalArgumentException") (by decide +kernel)) (va_Nw.use rfl (hE.2.2.1 ("java/lang/IllegalArgumentException", "java/lang/IllegalArgumentException") (by decide +kernel))) hc1 hv1 hf1 ?_
      refine lv_astore (lv' := [(9, .ref q), (0, .ref (ad 100)), (1, .int a0), (2, .int a1), (3, .int a2), (4, .int a3), (5, .int a4), (6, .int a5), (7, .int a6), (8, .ref (ad 99))]) hx hb dL_keeper_23 hl (by decide) rfl (fun ls9 hl9 => ?_)
      refine lv_iconst (v := 1) hx hb dL_keeper_25 (by decide) ?_
      exact h_iret S.1 hr hlocks hL1 (fun t ht => Or.inr ⟨"java/lang/IllegalArgumentException", hE9, ad, f, fun _ _ => rfl, congrArg (fun z => Outcome.returned (some (Value.int z))) (show (1 : Int32) = hKd ["java/lang/IllegalArgumentException", "java/lang/UnsupportedOperationException"] "java/lang/IllegalArgumentException" from by decide +kernel), (fun v9 h9 => nomatch h9), by { rw [ht, h_self hf]; exact hG1 }⟩) dL_keeper_26 (by omega) (by omega)
    ·
      cases List.mem_singleton.mp hin
      refine vx_catch (own := RL) (name := "java/lang/UnsupportedOperationException") (E := "java/lang/UnsupportedOperationException") hown [⟨0, 20, 23, 15⟩] ⟨0, 20, 27, 26⟩ [] (by rw [htab]; rfl) (fun z hz => (List.mem_cons.mp hz).elim (fun e9 => by { subst e9; exact Or.inr ⟨by decide, "java/lang/IllegalArgumentException", hts (.classLink RL 15 "java/lang/IllegalArgumentException") (by decide +kernel), hN _ (by decide) _ (by decide) (by decide)⟩ }) (fun hz => absurd hz List.not_mem_nil)) (by decide) (by decide) (hts (.classLink RL 26 "java/lang/UnsupportedOperationException") (by decide +kernel)) (va_Nw.use rfl (hE.2.2.1 ("java/lang/UnsupportedOperationException", "java/lang/UnsupportedOperationException") (by decide +kernel))) hc1 hv1 hf1 ?_
      refine lv_astore (lv' := [(9, .ref q), (0, .ref (ad 100)), (1, .int a0), (2, .int a1), (3, .int a2), (4, .int a3), (5, .int a4), (6, .int a5), (7, .int a6), (8, .ref (ad 99))]) hx hb dL_keeper_27 hl (by decide) rfl (fun ls9 hl9 => ?_)
      refine lv_iconst (v := 2) hx hb dL_keeper_29 (by decide) ?_
      exact h_iret S.1 hr hlocks hL1 (fun t ht => Or.inr ⟨"java/lang/UnsupportedOperationException", hE9, ad, f, fun _ _ => rfl, congrArg (fun z => Outcome.returned (some (Value.int z))) (show (2 : Int32) = hKd ["java/lang/IllegalArgumentException", "java/lang/UnsupportedOperationException"] "java/lang/UnsupportedOperationException" from by decide +kernel), (fun v9 h9 => nomatch h9), by { rw [ht, h_self hf]; exact hG1 }⟩) dL_keeper_30 (by omega) (by omega)
set_option maxHeartbeats 1000000 in
theorem hl_boxes {l : Launch} {D : va_G} {cI cZ cB cO cR cJ : ClassId} {Hb : Heap} {K : kTx} {l0 : Nat → Prop} {ad : Nat → Nat} {ce0 : Nat → va_E} (h99 : l0 99) {f : Nat → Int64} (hf : ce0 99 = .inl (cJ, 1, .inr (.inl f))) {rm : Room} {mc ms : Nat} (hrm : rm.cells = mc ∧ rm.slots = ms) (hfr : rm.frames ≤ 7 ∧ rm.locals ≤ 113 ∧ mc ≤ 2 ∧ ms ≤ 12) {thr : Option String} {v : Int32} {s s1 s2 : Nat → Int32} {r r1 r2 : Nat → Nat → Int32} {a0 a1 : Int32} (hthr : ∀ E, thr = some E → E ∈ (["java/lang/IndexOutOfBoundsException", "java/lang/IllegalArgumentException"] : List String))
    (hM : vx_Met l yX9_boxes wsX9_boxes rm (va_Pc [.ref (ad 100), .int a0, .int a1] (kP D (tyL cI cZ cB cO cR cJ) Hb K (lvC l0 s) ad (kJ ce0 ad K.2.2.1 cI cB cO cR s r))) (cQ D Hb l0 ad thr (some (.int v)) ce0 K.2.2.1 cI cB cO cR s1 r1) (cX D Hb l0 ad thr ce0 K.2.2.1 cI cB cO cR s2 r2) mc ms (gA Hb)) :
    vx_Met l yL_boxes wsL_boxes { frames := 8, cells := 2, slots := 12, locals := 136 } (va_Pc [.ref (ad 100), .int a0, .int a1, .ref (ad 99)] (hP D (tyL cI cZ cB cO cR cJ) Hb K (lvC l0 s) ad (kJ ce0 ad K.2.2.1 cI cB cO cR s r))) (hQ D Hb l0 ad ce0 K.2.2.1 cI cB cO cR cJ ["java/lang/IndexOutOfBoundsException", "java/lang/IllegalArgumentException"] thr (some v) s1 r1 s2 r2) (fun _ _ _ => False) 2 12 (gA Hb) := by
  refine vx_ofWH (cc := cL_boxes) (maxL := 5) (ret := (some .int)) (hh := [(0, 10, 13, 13), (0, 10, 17, 15)]) (by decide) rfl ?_
  intro p0 e0 s0 m0 args below meth c0 s₁ B hml hv
  obtain ⟨rfl, ⟨hG, hK, hE⟩, hN⟩ := hv
  have hx := B.exec
  have hb := B.bytes
  have hr := B.returns
  have hts := atoms_spec (ws := wsL_boxes) B.pre
  have htab := vx_table (x := yL_boxes) B (hts _ List.mem_cons_self)
  have hown : s0.vm.findClass RL = some m0.cls := findClass_of_methodNamed B.named
  have hlocks := B.notSynchronized
  have S : kX p0 m0 c0 cL_boxes 5 s0 _ wsL_boxes RL D (tyL cI cZ cB cO cR cJ) Hb K := ⟨⟨hx, hb, hml, hown, hts⟩, hK, hE⟩
  have hL : gL Hb [] := gL.nil
  have hlv : kL (lvC l0 s) s := lvC_L
  have hl := lv_entry ([.ref (ad 100), .int a0, .int a1, .ref (ad 99)]) (n := 5) (Nat.le_of_ble_eq_true rfl)
  rw [lg_entry_eq]
  generalize (lg_sl ([.ref (ad 100), .int a0, .int a1, .ref (ad 99)]) ++ List.replicate (5 - (lg_sl ([.ref (ad 100), .int a0, .int a1, .ref (ad 99)])).length) Slot.unset).toArray = ls at hl ⊢
  have hl : lv_has ls 5 [(0, .ref (ad 100)), (1, .int a0), (2, .int a1), (3, .ref (ad 99))] := hl
  refine lv_aload_n hx hb dL_boxes_0 rfl (lv_at hl 3 rfl) ?_
  refine lv_iconst (v := 0) hx hb dL_boxes_1 (by decide) ?_
  refine lv_aload_n hx hb dL_boxes_2 rfl (lv_at hl 0 rfl) ?_
  refine lv_iload_n hx hb dL_boxes_3 rfl (lv_at hl 1 rfl) ?_
  refine lv_iload_n hx hb dL_boxes_4 rfl (lv_at hl 2 rfl) ?_
  refine h_call (n := 2) (As := [.int a0, .int a1]) (rest := [.int 0, .ref (ad 99)]) (k := 100) (ci := 10) S hG hL (hlv.f (by decide) (by decide)) rfl rfl hM gL_boxes_X9_boxes rfl hrm (by decide +kernel) ⟨by { show rm.frames + 1 ≤ 8; omega }, by { show 8 + (4 + 11) + rm.locals ≤ 136; omega }⟩ rfl hl.1 rfl (Nat.le_of_ble_eq_true rfl) dL_boxes_5 ⟨by { show 0 + mc ≤ 2; omega }, by { show 0 + ms ≤ 12; omega }⟩ (fun ht9 ad1 H1 locs1 ha hG1 hL1 => ?_) (fun E hE9 H1 locs1 q c9 hG1 hL1 hc1 hv1 hf1 => ?_)
  ·
    have e99 : ad 99 = ad1 99 := (ha 99 (Or.inl ⟨by decide, h99⟩)).symm
    refine lv_i2l hx hb dL_boxes_8 rfl ?_
    refine g_lastE (ad := ad1) 99 e99 S.1 hK hG1 hL1 (Or.inl ⟨by decide, h99⟩) 5 ((if_pos (by decide)).trans hf) rfl h_in dL_boxes_9 (fun H2 locs2 hG2 hL2 => ?_)
    have hG3 := hG2
    rw [kJ_99] at hG3
    refine lv_goto (tgt := 21) hx hb dL_boxes_10 (by decide) ?_
    refine lv_iconst (v := 0) hx hb dL_boxes_21 (by decide) ?_
    exact h_iret S.1 hr hlocks hL2 (fun t ht => Or.inl ⟨ht9, ⟨ad1, vp_updL f (Int32.toNatClampNeg 0) v.toInt64, ha, rfl, fun v9 h9 => by { cases h9; rfl }, by { rw [ht]; exact hG3 }⟩⟩) dL_boxes_22 (by omega) (by omega)
  ·
    have hin := hthr E hE9
    rcases List.mem_cons.mp hin with rfl | hin
    ·
      refine vx_catch (own := RL) (name := "java/lang/IndexOutOfBoundsException") (E := "java/lang/IndexOutOfBoundsException") hown [] ⟨0, 10, 13, 13⟩ [⟨0, 10, 17, 15⟩] (by rw [htab]; rfl) (fun z hz => absurd hz List.not_mem_nil) (by decide) (by decide) (hts (.classLink RL 13 "java/lang/IndexOutOfBoundsException") (by decide +kernel)) (va_Nw.use rfl (hE.2.2.1 ("java/lang/IndexOutOfBoundsException", "java/lang/IndexOutOfBoundsException") (by decide +kernel))) hc1 hv1 hf1 ?_
      refine lv_astore (lv' := [(4, .ref q), (0, .ref (ad 100)), (1, .int a0), (2, .int a1), (3, .ref (ad 99))]) hx hb dL_boxes_13 hl (by decide) rfl (fun ls9 hl9 => ?_)
      refine lv_iconst (v := 1) hx hb dL_boxes_15 (by decide) ?_
      exact h_iret S.1 hr hlocks hL1 (fun t ht => Or.inr ⟨"java/lang/IndexOutOfBoundsException", hE9, ad, f, fun _ _ => rfl, congrArg (fun z => Outcome.returned (some (Value.int z))) (show (1 : Int32) = hKd ["java/lang/IndexOutOfBoundsException", "java/lang/IllegalArgumentException"] "java/lang/IndexOutOfBoundsException" from by decide +kernel), (fun v9 h9 => nomatch h9), by { rw [ht, h_self hf]; exact hG1 }⟩) dL_boxes_16 (by omega) (by omega)
    ·
      cases List.mem_singleton.mp hin
      refine vx_catch (own := RL) (name := "java/lang/IllegalArgumentException") (E := "java/lang/IllegalArgumentException") hown [⟨0, 10, 13, 13⟩] ⟨0, 10, 17, 15⟩ [] (by rw [htab]; rfl) (fun z hz => (List.mem_cons.mp hz).elim (fun e9 => by { subst e9; exact Or.inr ⟨by decide, "java/lang/IndexOutOfBoundsException", hts (.classLink RL 13 "java/lang/IndexOutOfBoundsException") (by decide +kernel), hN _ (by decide) _ (by decide) (by decide)⟩ }) (fun hz => absurd hz List.not_mem_nil)) (by decide) (by decide) (hts (.classLink RL 15 "java/lang/IllegalArgumentException") (by decide +kernel)) (va_Nw.use rfl (hE.2.2.1 ("java/lang/IllegalArgumentException", "java/lang/IllegalArgumentException") (by decide +kernel))) hc1 hv1 hf1 ?_
      refine lv_astore (lv' := [(4, .ref q), (0, .ref (ad 100)), (1, .int a0), (2, .int a1), (3, .ref (ad 99))]) hx hb dL_boxes_17 hl (by decide) rfl (fun ls9 hl9 => ?_)
      refine lv_iconst (v := 2) hx hb dL_boxes_19 (by decide) ?_
      exact h_iret S.1 hr hlocks hL1 (fun t ht => Or.inr ⟨"java/lang/IllegalArgumentException", hE9, ad, f, fun _ _ => rfl, congrArg (fun z => Outcome.returned (some (Value.int z))) (show (2 : Int32) = hKd ["java/lang/IndexOutOfBoundsException", "java/lang/IllegalArgumentException"] "java/lang/IllegalArgumentException" from by decide +kernel), (fun v9 h9 => nomatch h9), by { rw [ht, h_self hf]; exact hG1 }⟩) dL_boxes_20 (by omega) (by omega)
set_option maxHeartbeats 1000000 in
theorem hl_hours {l : Launch} {D : va_G} {cI cZ cB cO cR cJ : ClassId} {Hb : Heap} {K : kTx} {l0 : Nat → Prop} {ad : Nat → Nat} {ce0 : Nat → va_E} (h99 : l0 99) {f : Nat → Int64} (hf : ce0 99 = .inl (cJ, 1, .inr (.inl f))) {rm : Room} {mc ms : Nat} (hrm : rm.cells = mc ∧ rm.slots = ms) (hfr : rm.frames ≤ 9 ∧ rm.locals ≤ 225 ∧ mc ≤ 120 ∧ ms ≤ 5040) {thr : Option String} {v : Int32} {s s1 s2 : Nat → Int32} {r r1 r2 : Nat → Nat → Int32} {a0 : Int32} (hthr : ∀ E, thr = some E → E ∈ (["java/lang/IllegalArgumentException"] : List String))
    (hM : vx_Met l yX9_hours wsX9_hours rm (va_Pc [.ref (ad 100), .int a0] (kP D (tyL cI cZ cB cO cR cJ) Hb K (lvC l0 s) ad (kJ ce0 ad K.2.2.1 cI cB cO cR s r))) (cQ D Hb l0 ad thr (some (.int v)) ce0 K.2.2.1 cI cB cO cR s1 r1) (cX D Hb l0 ad thr ce0 K.2.2.1 cI cB cO cR s2 r2) mc ms (gA Hb)) :
    vx_Met l yL_hours wsL_hours { frames := 10, cells := 120, slots := 5040, locals := 247 } (va_Pc [.ref (ad 100), .int a0, .ref (ad 99)] (hP D (tyL cI cZ cB cO cR cJ) Hb K (lvC l0 s) ad (kJ ce0 ad K.2.2.1 cI cB cO cR s r))) (hQ D Hb l0 ad ce0 K.2.2.1 cI cB cO cR cJ ["java/lang/IllegalArgumentException"] thr (some v) s1 r1 s2 r2) (fun _ _ _ => False) 120 5040 (gA Hb) := by
  refine vx_ofWH (cc := cL_hours) (maxL := 4) (ret := (some .int)) (hh := [(0, 9, 12, 15)]) (by decide) rfl ?_
  intro p0 e0 s0 m0 args below meth c0 s₁ B hml hv
  obtain ⟨rfl, ⟨hG, hK, hE⟩, hN⟩ := hv
  have hx := B.exec
  have hb := B.bytes
  have hr := B.returns
  have hts := atoms_spec (ws := wsL_hours) B.pre
  have htab := vx_table (x := yL_hours) B (hts _ List.mem_cons_self)
  have hown : s0.vm.findClass RL = some m0.cls := findClass_of_methodNamed B.named
  have hlocks := B.notSynchronized
  have S : kX p0 m0 c0 cL_hours 4 s0 _ wsL_hours RL D (tyL cI cZ cB cO cR cJ) Hb K := ⟨⟨hx, hb, hml, hown, hts⟩, hK, hE⟩
  have hL : gL Hb [] := gL.nil
  have hlv : kL (lvC l0 s) s := lvC_L
  have hl := lv_entry ([.ref (ad 100), .int a0, .ref (ad 99)]) (n := 4) (Nat.le_of_ble_eq_true rfl)
  rw [lg_entry_eq]
  generalize (lg_sl ([.ref (ad 100), .int a0, .ref (ad 99)]) ++ List.replicate (4 - (lg_sl ([.ref (ad 100), .int a0, .ref (ad 99)])).length) Slot.unset).toArray = ls at hl ⊢
  have hl : lv_has ls 4 [(0, .ref (ad 100)), (1, .int a0), (2, .ref (ad 99))] := hl
  refine lv_aload_n hx hb dL_hours_0 rfl (lv_at hl 2 rfl) ?_
  refine lv_iconst (v := 0) hx hb dL_hours_1 (by decide) ?_
  refine lv_aload_n hx hb dL_hours_2 rfl (lv_at hl 0 rfl) ?_
  refine lv_iload_n hx hb dL_hours_3 rfl (lv_at hl 1 rfl) ?_
  refine h_call (n := 1) (As := [.int a0]) (rest := [.int 0, .ref (ad 99)]) (k := 100) (ci := 10) S hG hL (hlv.f (by decide) (by decide)) rfl rfl hM gL_hours_X9_hours rfl hrm (by decide +kernel) ⟨by { show rm.frames + 1 ≤ 10; omega }, by { show 8 + (3 + 11) + rm.locals ≤ 247; omega }⟩ rfl hl.1 rfl (Nat.le_of_ble_eq_true rfl) dL_hours_4 ⟨by { show 0 + mc ≤ 120; omega }, by { show 0 + ms ≤ 5040; omega }⟩ (fun ht9 ad1 H1 locs1 ha hG1 hL1 => ?_) (fun E hE9 H1 locs1 q c9 hG1 hL1 hc1 hv1 hf1 => ?_)
  ·
    have e99 : ad 99 = ad1 99 := (ha 99 (Or.inl ⟨by decide, h99⟩)).symm
    refine lv_i2l hx hb dL_hours_7 rfl ?_
    refine g_lastE (ad := ad1) 99 e99 S.1 hK hG1 hL1 (Or.inl ⟨by decide, h99⟩) 5 ((if_pos (by decide)).trans hf) rfl h_in dL_hours_8 (fun H2 locs2 hG2 hL2 => ?_)
    have hG3 := hG2
    rw [kJ_99] at hG3
    refine lv_goto (tgt := 15) hx hb dL_hours_9 (by decide) ?_
    refine lv_iconst (v := 0) hx hb dL_hours_15 (by decide) ?_
    exact h_iret S.1 hr hlocks hL2 (fun t ht => Or.inl ⟨ht9, ⟨ad1, vp_updL f (Int32.toNatClampNeg 0) v.toInt64, ha, rfl, fun v9 h9 => by { cases h9; rfl }, by { rw [ht]; exact hG3 }⟩⟩) dL_hours_16 (by omega) (by omega)
  ·
    have hin := hthr E hE9
    cases List.mem_singleton.mp hin
    refine vx_catch (own := RL) (name := "java/lang/IllegalArgumentException") (E := "java/lang/IllegalArgumentException") hown [] ⟨0, 9, 12, 15⟩ [] (by rw [htab]; rfl) (fun z hz => absurd hz List.not_mem_nil) (by decide) (by decide) (hts (.classLink RL 15 "java/lang/IllegalArgumentException") (by decide +kernel)) (va_Nw.use rfl (hE.2.2.1 ("java/lang/IllegalArgumentException", "java/lang/IllegalArgumentException") (by decide +kernel))) hc1 hv1 hf1 ?_
    refine lv_astore_n (lv' := [(3, .ref q), (0, .ref (ad 100)), (1, .int a0), (2, .ref (ad 99))]) hx hb dL_hours_12 rfl hl (by decide) rfl (fun ls9 hl9 => ?_)
    refine lv_iconst (v := 1) hx hb dL_hours_13 (by decide) ?_
    exact h_iret S.1 hr hlocks hL1 (fun t ht => Or.inr ⟨"java/lang/IllegalArgumentException", hE9, ad, f, fun _ _ => rfl, congrArg (fun z => Outcome.returned (some (Value.int z))) (show (1 : Int32) = hKd ["java/lang/IllegalArgumentException"] "java/lang/IllegalArgumentException" from by decide +kernel), (fun v9 h9 => nomatch h9), by { rw [ht, h_self hf]; exact hG1 }⟩) dL_hours_14 (by omega) (by omega)
set_option maxHeartbeats 1000000 in
theorem hl_call {l : Launch} {D : va_G} {cI cZ cB cO cR cJ : ClassId} {Hb : Heap} {K : kTx} {l0 : Nat → Prop} {ad : Nat → Nat} {ce0 : Nat → va_E} (h99 : l0 99) {f : Nat → Int64} (hf : ce0 99 = .inl (cJ, 1, .inr (.inl f))) {rm : Room} {mc ms : Nat} (hrm : rm.cells = mc ∧ rm.slots = ms) (hfr : rm.frames ≤ 7 ∧ rm.locals ≤ 180 ∧ mc ≤ 2 ∧ ms ≤ 84) {thr : Option String} {v : Int32} {s s1 s2 : Nat → Int32} {r r1 r2 : Nat → Nat → Int32} (hthr : ∀ E, thr = some E → E ∈ (["java/lang/IllegalArgumentException", "java/lang/UnsupportedOperationException"] : List String))
    (hM : vx_Met l yX9_call wsX9_call rm (va_Pc [.ref (ad 100)] (kP D (tyL cI cZ cB cO cR cJ) Hb K (lvC l0 s) ad (kJ ce0 ad K.2.2.1 cI cB cO cR s r))) (cQ D Hb l0 ad thr (some (.int v)) ce0 K.2.2.1 cI cB cO cR s1 r1) (cX D Hb l0 ad thr ce0 K.2.2.1 cI cB cO cR s2 r2) mc ms (gA Hb)) :
    vx_Met l yL_call wsL_call { frames := 8, cells := 2, slots := 84, locals := 202 } (va_Pc [.ref (ad 100), .ref (ad 99)] (hP D (tyL cI cZ cB cO cR cJ) Hb K (lvC l0 s) ad (kJ ce0 ad K.2.2.1 cI cB cO cR s r))) (hQ D Hb l0 ad ce0 K.2.2.1 cI cB cO cR cJ ["java/lang/IllegalArgumentException", "java/lang/UnsupportedOperationException"] thr (some v) s1 r1 s2 r2) (fun _ _ _ => False) 2 84 (gA Hb) := by
  refine vx_ofWH (cc := cL_call) (maxL := 3) (ret := (some .int)) (hh := [(0, 8, 11, 15), (0, 8, 14, 26)]) (by decide) rfl ?_
  intro p0 e0 s0 m0 args below meth c0 s₁ B hml hv
  obtain ⟨rfl, ⟨hG, hK, hE⟩, hN⟩ := hv
  have hx := B.exec
  have hb := B.bytes
  have hr := B.returns
  have hts := atoms_spec (ws := wsL_call) B.pre
  have htab := vx_table (x := yL_call) B (hts _ List.mem_cons_self)
  have hown : s0.vm.findClass RL = some m0.cls := findClass_of_methodNamed B.named
  have hlocks := B.notSynchronized
  have S : kX p0 m0 c0 cL_call 3 s0 _ wsL_call RL D (tyL cI cZ cB cO cR cJ) Hb K := ⟨⟨hx, hb, hml, hown, hts⟩, hK, hE⟩
  have hL : gL Hb [] := gL.nil
  have hlv : kL (lvC l0 s) s := lvC_L
  have hl := lv_entry ([.ref (ad 100), .ref (ad 99)]) (n := 3) (Nat.le_of_ble_eq_true rfl)
  rw [lg_entry_eq]
  generalize (lg_sl ([.ref (ad 100), .ref (ad 99)]) ++ List.replicate (3 - (lg_sl ([.ref (ad 100), .ref (ad 99)])).length) Slot.unset).toArray = ls at hl ⊢
  have hl : lv_has ls 3 [(0, .ref (ad 100)), (1, .ref (ad 99))] := hl
  refine lv_aload_n hx hb dL_call_0 rfl (lv_at hl 1 rfl) ?_
  refine lv_iconst (v := 0) hx hb dL_call_1 (by decide) ?_
  refine lv_aload_n hx hb dL_call_2 rfl (lv_at hl 0 rfl) ?_
  refine h_call (n := 0) (As := []) (rest := [.int 0, .ref (ad 99)]) (k := 100) (ci := 10) S hG hL (hlv.f (by decide) (by decide)) rfl rfl hM gL_call_X9_call rfl hrm (by decide +kernel) ⟨by { show rm.frames + 1 ≤ 8; omega }, by { show 8 + (3 + 11) + rm.locals ≤ 202; omega }⟩ rfl hl.1 rfl (Nat.le_of_ble_eq_true rfl) dL_call_3 ⟨by { show 0 + mc ≤ 2; omega }, by { show 0 + ms ≤ 84; omega }⟩ (fun ht9 ad1 H1 locs1 ha hG1 hL1 => ?_) (fun E hE9 H1 locs1 q c9 hG1 hL1 hc1 hv1 hf1 => ?_)
  ·
    have e99 : ad 99 = ad1 99 := (ha 99 (Or.inl ⟨by decide, h99⟩)).symm
    refine lv_i2l hx hb dL_call_6 rfl ?_
    refine g_lastE (ad := ad1) 99 e99 S.1 hK hG1 hL1 (Or.inl ⟨by decide, h99⟩) 5 ((if_pos (by decide)).trans hf) rfl h_in dL_call_7 (fun H2 locs2 hG2 hL2 => ?_)
    have hG3 := hG2
    rw [kJ_99] at hG3
    refine lv_goto (tgt := 17) hx hb dL_call_8 (by decide) ?_
    refine lv_iconst (v := 0) hx hb dL_call_17 (by decide) ?_
    exact h_iret S.1 hr hlocks hL2 (fun t ht => Or.inl ⟨ht9, ⟨ad1, vp_updL f (Int32.toNatClampNeg 0) v.toInt64, ha, rfl, fun v9 h9 => by { cases h9; rfl }, by { rw [ht]; exact hG3 }⟩⟩) dL_call_18 (by omega) (by omega)
  ·
    have hin := hthr E hE9
    rcases List.mem_cons.mp hin with rfl | hin
    ·
      refine vx_catch (own := RL) (name := "java/lang/IllegalArgumentException") (E := "java/lang/IllegalArgumentException") hown [] ⟨0, 8, 11, 15⟩ [⟨0, 8, 14, 26⟩] (by rw [htab]; rfl) (fun z hz => absurd hz List.not_mem_nil) (by decide) (by decide) (hts (.classLink RL 15 "java/lang/IllegalArgumentException") (by decide +kernel)) (va_Nw.use rfl (hE.2.2.1 ("java/lang/IllegalArgumentException", "java/lang/IllegalArgumentException") (by decide +kernel))) hc1 hv1 hf1 ?_
      refine lv_astore_n (lv' := [(2, .ref q), (0, .ref (ad 100)), (1, .ref (ad 99))]) hx hb dL_call_11 rfl hl (by decide) rfl (fun ls9 hl9 => ?_)
      refine lv_iconst (v := 1) hx hb dL_call_12 (by decide) ?_
      exact h_iret S.1 hr hlocks hL1 (fun t ht => Or.inr ⟨"java/lang/IllegalArgumentException", hE9, ad, f, fun _ _ => rfl, congrArg (fun z => Outcome.returned (some (Value.int z))) (show (1 : Int32) = hKd ["java/lang/IllegalArgumentException", "java/lang/UnsupportedOperationException"] "java/lang/IllegalArgumentException" from by decide +kernel), (fun v9 h9 => nomatch h9), by { rw [ht, h_self hf]; exact hG1 }⟩) dL_call_13 (by omega) (by omega)
    ·
      cases List.mem_singleton.mp hin
      refine vx_catch (own := RL) (name := "java/lang/UnsupportedOperationException") (E := "java/lang/UnsupportedOperationException") hown [⟨0, 8, 11, 15⟩] ⟨0, 8, 14, 26⟩ [] (by rw [htab]; rfl) (fun z hz => (List.mem_cons.mp hz).elim (fun e9 => by { subst e9; exact Or.inr ⟨by decide, "java/lang/IllegalArgumentException", hts (.classLink RL 15 "java/lang/IllegalArgumentException") (by decide +kernel), hN _ (by decide) _ (by decide) (by decide)⟩ }) (fun hz => absurd hz List.not_mem_nil)) (by decide) (by decide) (hts (.classLink RL 26 "java/lang/UnsupportedOperationException") (by decide +kernel)) (va_Nw.use rfl (hE.2.2.1 ("java/lang/UnsupportedOperationException", "java/lang/UnsupportedOperationException") (by decide +kernel))) hc1 hv1 hf1 ?_
      refine lv_astore_n (lv' := [(2, .ref q), (0, .ref (ad 100)), (1, .ref (ad 99))]) hx hb dL_call_14 rfl hl (by decide) rfl (fun ls9 hl9 => ?_)
      refine lv_iconst (v := 2) hx hb dL_call_15 (by decide) ?_
      exact h_iret S.1 hr hlocks hL1 (fun t ht => Or.inr ⟨"java/lang/UnsupportedOperationException", hE9, ad, f, fun _ _ => rfl, congrArg (fun z => Outcome.returned (some (Value.int z))) (show (2 : Int32) = hKd ["java/lang/IllegalArgumentException", "java/lang/UnsupportedOperationException"] "java/lang/UnsupportedOperationException" from by decide +kernel), (fun v9 h9 => nomatch h9), by { rw [ht, h_self hf]; exact hG1 }⟩) dL_call_16 (by omega) (by omega)
set_option maxHeartbeats 1000000 in
theorem hl_rota {l : Launch} {D : va_G} {cI cZ cB cO cR cJ : ClassId} {Hb : Heap} {K : kTx} {l0 : Nat → Prop} {ad : Nat → Nat} {ce0 : Nat → va_E} (h99 : l0 99) {f : Nat → Int64} (hf : ce0 99 = .inl (cJ, 1, .inr (.inl f))) {rm : Room} {mc ms : Nat} (hrm : rm.cells = mc ∧ rm.slots = ms) (hfr : rm.frames ≤ 8 ∧ rm.locals ≤ 175 ∧ mc ≤ 1 ∧ ms ≤ 6) {thr : Option String} {v : Int32} {s s1 s2 : Nat → Int32} {r r1 r2 : Nat → Nat → Int32} (hthr : ∀ E, thr = some E → E ∈ (["java/lang/IllegalArgumentException"] : List String))
    (hM : vx_Met l yX9_rota wsX9_rota rm (va_Pc [.ref (ad 100)] (kP D (tyL cI cZ cB cO cR cJ) Hb K (lvC l0 s) ad (kJ ce0 ad K.2.2.1 cI cB cO cR s r))) (cQ D Hb l0 ad thr (some (.int v)) ce0 K.2.2.1 cI cB cO cR s1 r1) (cX D Hb l0 ad thr ce0 K.2.2.1 cI cB cO cR s2 r2) mc ms (gA Hb)) :
    vx_Met l yL_rota wsL_rota { frames := 9, cells := 1, slots := 6, locals := 197 } (va_Pc [.ref (ad 100), .ref (ad 99)] (hP D (tyL cI cZ cB cO cR cJ) Hb K (lvC l0 s) ad (kJ ce0 ad K.2.2.1 cI cB cO cR s r))) (hQ D Hb l0 ad ce0 K.2.2.1 cI cB cO cR cJ ["java/lang/IllegalArgumentException"] thr (some v) s1 r1 s2 r2) (fun _ _ _ => False) 1 6 (gA Hb) := by
  refine vx_ofWH (cc := cL_rota) (maxL := 3) (ret := (some .int)) (hh := [(0, 8, 11, 15)]) (by decide) rfl ?_
  intro p0 e0 s0 m0 args below meth c0 s₁ B hml hv
  obtain ⟨rfl, ⟨hG, hK, hE⟩, hN⟩ := hv
  have hx := B.exec
  have hb := B.bytes
  have hr := B.returns
  have hts := atoms_spec (ws := wsL_rota) B.pre
  have htab := vx_table (x := yL_rota) B (hts _ List.mem_cons_self)
  have hown : s0.vm.findClass RL = some m0.cls := findClass_of_methodNamed B.named
  have hlocks := B.notSynchronized
  have S : kX p0 m0 c0 cL_rota 3 s0 _ wsL_rota RL D (tyL cI cZ cB cO cR cJ) Hb K := ⟨⟨hx, hb, hml, hown, hts⟩, hK, hE⟩
  have hL : gL Hb [] := gL.nil
  have hlv : kL (lvC l0 s) s := lvC_L
  have hl := lv_entry ([.ref (ad 100), .ref (ad 99)]) (n := 3) (Nat.le_of_ble_eq_true rfl)
  rw [lg_entry_eq]
  generalize (lg_sl ([.ref (ad 100), .ref (ad 99)]) ++ List.replicate (3 - (lg_sl ([.ref (ad 100), .ref (ad 99)])).length) Slot.unset).toArray = ls at hl ⊢
  have hl : lv_has ls 3 [(0, .ref (ad 100)), (1, .ref (ad 99))] := hl
  refine lv_aload_n hx hb dL_rota_0 rfl (lv_at hl 1 rfl) ?_
  refine lv_iconst (v := 0) hx hb dL_rota_1 (by decide) ?_
  refine lv_aload_n hx hb dL_rota_2 rfl (lv_at hl 0 rfl) ?_
  refine h_call (n := 0) (As := []) (rest := [.int 0, .ref (ad 99)]) (k := 100) (ci := 10) S hG hL (hlv.f (by decide) (by decide)) rfl rfl hM gL_rota_X9_rota rfl hrm (by decide +kernel) ⟨by { show rm.frames + 1 ≤ 9; omega }, by { show 8 + (3 + 11) + rm.locals ≤ 197; omega }⟩ rfl hl.1 rfl (Nat.le_of_ble_eq_true rfl) dL_rota_3 ⟨by { show 0 + mc ≤ 1; omega }, by { show 0 + ms ≤ 6; omega }⟩ (fun ht9 ad1 H1 locs1 ha hG1 hL1 => ?_) (fun E hE9 H1 locs1 q c9 hG1 hL1 hc1 hv1 hf1 => ?_)
  ·
    have e99 : ad 99 = ad1 99 := (ha 99 (Or.inl ⟨by decide, h99⟩)).symm
    refine lv_i2l hx hb dL_rota_6 rfl ?_
    refine g_lastE (ad := ad1) 99 e99 S.1 hK hG1 hL1 (Or.inl ⟨by decide, h99⟩) 5 ((if_pos (by decide)).trans hf) rfl h_in dL_rota_7 (fun H2 locs2 hG2 hL2 => ?_)
    have hG3 := hG2
    rw [kJ_99] at hG3
    refine lv_goto (tgt := 14) hx hb dL_rota_8 (by decide) ?_
    refine lv_iconst (v := 0) hx hb dL_rota_14 (by decide) ?_
    exact h_iret S.1 hr hlocks hL2 (fun t ht => Or.inl ⟨ht9, ⟨ad1, vp_updL f (Int32.toNatClampNeg 0) v.toInt64, ha, rfl, fun v9 h9 => by { cases h9; rfl }, by { rw [ht]; exact hG3 }⟩⟩) dL_rota_15 (by omega) (by omega)
  ·
    have hin := hthr E hE9
    cases List.mem_singleton.mp hin
    refine vx_catch (own := RL) (name := "java/lang/IllegalArgumentException") (E := "java/lang/IllegalArgumentException") hown [] ⟨0, 8, 11, 15⟩ [] (by rw [htab]; rfl) (fun z hz => absurd hz List.not_mem_nil) (by decide) (by decide) (hts (.classLink RL 15 "java/lang/IllegalArgumentException") (by decide +kernel)) (va_Nw.use rfl (hE.2.2.1 ("java/lang/IllegalArgumentException", "java/lang/IllegalArgumentException") (by decide +kernel))) hc1 hv1 hf1 ?_
    refine lv_astore_n (lv' := [(2, .ref q), (0, .ref (ad 100)), (1, .ref (ad 99))]) hx hb dL_rota_11 rfl hl (by decide) rfl (fun ls9 hl9 => ?_)
    refine lv_iconst (v := 1) hx hb dL_rota_12 (by decide) ?_
    exact h_iret S.1 hr hlocks hL1 (fun t ht => Or.inr ⟨"java/lang/IllegalArgumentException", hE9, ad, f, fun _ _ => rfl, congrArg (fun z => Outcome.returned (some (Value.int z))) (show (1 : Int32) = hKd ["java/lang/IllegalArgumentException"] "java/lang/IllegalArgumentException" from by decide +kernel), (fun v9 h9 => nomatch h9), by { rw [ht, h_self hf]; exact hG1 }⟩) dL_rota_13 (by omega) (by omega)
set_option maxHeartbeats 1000000 in
theorem hl_send {l : Launch} {D : va_G} {cI cZ cB cO cR cJ : ClassId} {Hb : Heap} {K : kTx} {l0 : Nat → Prop} {ad : Nat → Nat} {ce0 : Nat → va_E} (h99 : l0 99) {f : Nat → Int64} (hf : ce0 99 = .inl (cJ, 1, .inr (.inl f))) {rm : Room} {mc ms : Nat} (hrm : rm.cells = mc ∧ rm.slots = ms) (hfr : rm.frames ≤ 7 ∧ rm.locals ≤ 113 ∧ mc ≤ 2 ∧ ms ≤ 12) {thr : Option String} {v : Int32} {s s1 s2 : Nat → Int32} {r r1 r2 : Nat → Nat → Int32} {a0 : Int32} (hthr : ∀ E, thr = some E → E ∈ (["java/lang/IndexOutOfBoundsException", "java/lang/IllegalStateException"] : List String))
    (hM : vx_Met l yX9_send wsX9_send rm (va_Pc [.ref (ad 100), .int a0] (kP D (tyL cI cZ cB cO cR cJ) Hb K (lvC l0 s) ad (kJ ce0 ad K.2.2.1 cI cB cO cR s r))) (cQ D Hb l0 ad thr (some (.int v)) ce0 K.2.2.1 cI cB cO cR s1 r1) (cX D Hb l0 ad thr ce0 K.2.2.1 cI cB cO cR s2 r2) mc ms (gA Hb)) :
    vx_Met l yL_send wsL_send { frames := 8, cells := 2, slots := 12, locals := 140 } (va_Pc [.ref (ad 100), .int a0, .ref (ad 99)] (hP D (tyL cI cZ cB cO cR cJ) Hb K (lvC l0 s) ad (kJ ce0 ad K.2.2.1 cI cB cO cR s r))) (hQ D Hb l0 ad ce0 K.2.2.1 cI cB cO cR cJ ["java/lang/IndexOutOfBoundsException", "java/lang/IllegalStateException"] thr (some v) s1 r1 s2 r2) (fun _ _ _ => False) 2 12 (gA Hb) := by
  refine vx_ofWH (cc := cL_send) (maxL := 4) (ret := (some .int)) (hh := [(0, 9, 12, 13), (0, 9, 15, 17)]) (by decide) rfl ?_
  intro p0 e0 s0 m0 args below meth c0 s₁ B hml hv
  obtain ⟨rfl, ⟨hG, hK, hE⟩, hN⟩ := hv
  have hx := B.exec
  have hb := B.bytes
  have hr := B.returns
  have hts := atoms_spec (ws := wsL_send) B.pre
  have htab := vx_table (x := yL_send) B (hts _ List.mem_cons_self)
  have hown : s0.vm.findClass RL = some m0.cls := findClass_of_methodNamed B.named
  have hlocks := B.notSynchronized
  have S : kX p0 m0 c0 cL_send 4 s0 _ wsL_send RL D (tyL cI cZ cB cO cR cJ) Hb K := ⟨⟨hx, hb, hml, hown, hts⟩, hK, hE⟩
  have hL : gL Hb [] := gL.nil
  have hlv : kL (lvC l0 s) s := lvC_L
  have hl := lv_entry ([.ref (ad 100), .int a0, .ref (ad 99)]) (n := 4) (Nat.le_of_ble_eq_true rfl)
  rw [lg_entry_eq]
  generalize (lg_sl ([.ref (ad 100), .int a0, .ref (ad 99)]) ++ List.replicate (4 - (lg_sl ([.ref (ad 100), .int a0, .ref (ad 99)])).length) Slot.unset).toArray = ls at hl ⊢
  have hl : lv_has ls 4 [(0, .ref (ad 100)), (1, .int a0), (2, .ref (ad 99))] := hl
  refine lv_aload_n hx hb dL_send_0 rfl (lv_at hl 2 rfl) ?_
  refine lv_iconst (v := 0) hx hb dL_send_1 (by decide) ?_
  refine lv_aload_n hx hb dL_send_2 rfl (lv_at hl 0 rfl) ?_
  refine lv_iload_n hx hb dL_send_3 rfl (lv_at hl 1 rfl) ?_
  refine h_call (n := 1) (As := [.int a0]) (rest := [.int 0, .ref (ad 99)]) (k := 100) (ci := 10) S hG hL (hlv.f (by decide) (by decide)) rfl rfl hM gL_send_X9_send rfl hrm (by decide +kernel) ⟨by { show rm.frames + 1 ≤ 8; omega }, by { show 8 + (8 + 11) + rm.locals ≤ 140; omega }⟩ rfl hl.1 rfl (Nat.le_of_ble_eq_true rfl) dL_send_4 ⟨by { show 0 + mc ≤ 2; omega }, by { show 0 + ms ≤ 12; omega }⟩ (fun ht9 ad1 H1 locs1 ha hG1 hL1 => ?_) (fun E hE9 H1 locs1 q c9 hG1 hL1 hc1 hv1 hf1 => ?_)
  ·
    have e99 : ad 99 = ad1 99 := (ha 99 (Or.inl ⟨by decide, h99⟩)).symm
    refine lv_i2l hx hb dL_send_7 rfl ?_
    refine g_lastE (ad := ad1) 99 e99 S.1 hK hG1 hL1 (Or.inl ⟨by decide, h99⟩) 5 ((if_pos (by decide)).trans hf) rfl h_in dL_send_8 (fun H2 locs2 hG2 hL2 => ?_)
    have hG3 := hG2
    rw [kJ_99] at hG3
    refine lv_goto (tgt := 18) hx hb dL_send_9 (by decide) ?_
    refine lv_iconst (v := 0) hx hb dL_send_18 (by decide) ?_
    exact h_iret S.1 hr hlocks hL2 (fun t ht => Or.inl ⟨ht9, ⟨ad1, vp_updL f (Int32.toNatClampNeg 0) v.toInt64, ha, rfl, fun v9 h9 => by { cases h9; rfl }, by { rw [ht]; exact hG3 }⟩⟩) dL_send_19 (by omega) (by omega)
  ·
    have hin := hthr E hE9
    rcases List.mem_cons.mp hin with rfl | hin
    ·
      refine vx_catch (own := RL) (name := "java/lang/IndexOutOfBoundsException") (E := "java/lang/IndexOutOfBoundsException") hown [] ⟨0, 9, 12, 13⟩ [⟨0, 9, 15, 17⟩] (by rw [htab]; rfl) (fun z hz => absurd hz List.not_mem_nil) (by decide) (by decide) (hts (.classLink RL 13 "java/lang/IndexOutOfBoundsException") (by decide +kernel)) (va_Nw.use rfl (hE.2.2.1 ("java/lang/IndexOutOfBoundsException", "java/lang/IndexOutOfBoundsException") (by decide +kernel))) hc1 hv1 hf1 ?_
      refine lv_astore_n (lv' := [(3, .ref q), (0, .ref (ad 100)), (1, .int a0), (2, .ref (ad 99))]) hx hb dL_send_12 rfl hl (by decide) rfl (fun ls9 hl9 => ?_)
      refine lv_iconst (v := 1) hx hb dL_send_13 (by decide) ?_
      exact h_iret S.1 hr hlocks hL1 (fun t ht => Or.inr ⟨"java/lang/IndexOutOfBoundsException", hE9, ad, f, fun _ _ => rfl, congrArg (fun z => Outcome.returned (some (Value.int z))) (show (1 : Int32) = hKd ["java/lang/IndexOutOfBoundsException", "java/lang/IllegalStateException"] "java/lang/IndexOutOfBoundsException" from by decide +kernel), (fun v9 h9 => nomatch h9), by { rw [ht, h_self hf]; exact hG1 }⟩) dL_send_14 (by omega) (by omega)
    ·
      cases List.mem_singleton.mp hin
      refine vx_catch (own := RL) (name := "java/lang/IllegalStateException") (E := "java/lang/IllegalStateException") hown [⟨0, 9, 12, 13⟩] ⟨0, 9, 15, 17⟩ [] (by rw [htab]; rfl) (fun z hz => (List.mem_cons.mp hz).elim (fun e9 => by { subst e9; exact Or.inr ⟨by decide, "java/lang/IndexOutOfBoundsException", hts (.classLink RL 13 "java/lang/IndexOutOfBoundsException") (by decide +kernel), hN _ (by decide) _ (by decide) (by decide)⟩ }) (fun hz => absurd hz List.not_mem_nil)) (by decide) (by decide) (hts (.classLink RL 17 "java/lang/IllegalStateException") (by decide +kernel)) (va_Nw.use rfl (hE.2.2.1 ("java/lang/IllegalStateException", "java/lang/IllegalStateException") (by decide +kernel))) hc1 hv1 hf1 ?_
      refine lv_astore_n (lv' := [(3, .ref q), (0, .ref (ad 100)), (1, .int a0), (2, .ref (ad 99))]) hx hb dL_send_15 rfl hl (by decide) rfl (fun ls9 hl9 => ?_)
      refine lv_iconst (v := 2) hx hb dL_send_16 (by decide) ?_
      exact h_iret S.1 hr hlocks hL1 (fun t ht => Or.inr ⟨"java/lang/IllegalStateException", hE9, ad, f, fun _ _ => rfl, congrArg (fun z => Outcome.returned (some (Value.int z))) (show (2 : Int32) = hKd ["java/lang/IndexOutOfBoundsException", "java/lang/IllegalStateException"] "java/lang/IllegalStateException" from by decide +kernel), (fun v9 h9 => nomatch h9), by { rw [ht, h_self hf]; exact hG1 }⟩) dL_send_17 (by omega) (by omega)
set_option maxHeartbeats 1000000 in
theorem hl_left {l : Launch} {D : va_G} {cI cZ cB cO cR cJ : ClassId} {Hb : Heap} {K : kTx} {l0 : Nat → Prop} {ad : Nat → Nat} {ce0 : Nat → va_E} (h99 : l0 99) {f : Nat → Int64} (hf : ce0 99 = .inl (cJ, 1, .inr (.inl f))) {rm : Room} {mc ms : Nat} (hrm : rm.cells = mc ∧ rm.slots = ms) (hfr : rm.frames ≤ 7 ∧ rm.locals ≤ 113 ∧ mc ≤ 1 ∧ ms ≤ 6) {thr : Option String} {v : Int32} {s s1 s2 : Nat → Int32} {r r1 r2 : Nat → Nat → Int32} {a0 a1 : Int32} (hthr : ∀ E, thr = some E → E ∈ (["java/lang/IndexOutOfBoundsException"] : List String))
    (hM : vx_Met l yX9_left wsX9_left rm (va_Pc [.ref (ad 100), .int a0, .int a1] (kP D (tyL cI cZ cB cO cR cJ) Hb K (lvC l0 s) ad (kJ ce0 ad K.2.2.1 cI cB cO cR s r))) (cQ D Hb l0 ad thr (some (.int v)) ce0 K.2.2.1 cI cB cO cR s1 r1) (cX D Hb l0 ad thr ce0 K.2.2.1 cI cB cO cR s2 r2) mc ms (gA Hb)) :
    vx_Met l yL_left wsL_left { frames := 8, cells := 1, slots := 6, locals := 135 } (va_Pc [.ref (ad 100), .int a0, .int a1, .ref (ad 99)] (hP D (tyL cI cZ cB cO cR cJ) Hb K (lvC l0 s) ad (kJ ce0 ad K.2.2.1 cI cB cO cR s r))) (hQ D Hb l0 ad ce0 K.2.2.1 cI cB cO cR cJ ["java/lang/IndexOutOfBoundsException"] thr (some v) s1 r1 s2 r2) (fun _ _ _ => False) 1 6 (gA Hb) := by
  refine vx_ofWH (cc := cL_left) (maxL := 5) (ret := (some .int)) (hh := [(0, 10, 13, 13)]) (by decide) rfl ?_
  intro p0 e0 s0 m0 args below meth c0 s₁ B hml hv
  obtain ⟨rfl, ⟨hG, hK, hE⟩, hN⟩ := hv
  have hx := B.exec
  have hb := B.bytes
  have hr := B.returns
  have hts := atoms_spec (ws := wsL_left) B.pre
  have htab := vx_table (x := yL_left) B (hts _ List.mem_cons_self)
  have hown : s0.vm.findClass RL = some m0.cls := findClass_of_methodNamed B.named
  have hlocks := B.notSynchronized
  have S : kX p0 m0 c0 cL_left 5 s0 _ wsL_left RL D (tyL cI cZ cB cO cR cJ) Hb K := ⟨⟨hx, hb, hml, hown, hts⟩, hK, hE⟩
  have hL : gL Hb [] := gL.nil
  have hlv : kL (lvC l0 s) s := lvC_L
  have hl := lv_entry ([.ref (ad 100), .int a0, .int a1, .ref (ad 99)]) (n := 5) (Nat.le_of_ble_eq_true rfl)
  rw [lg_entry_eq]
  generalize (lg_sl ([.ref (ad 100), .int a0, .int a1, .ref (ad 99)]) ++ List.replicate (5 - (lg_sl ([.ref (ad 100), .int a0, .int a1, .ref (ad 99)])).length) Slot.unset).toArray = ls at hl ⊢
  have hl : lv_has ls 5 [(0, .ref (ad 100)), (1, .int a0), (2, .int a1), (3, .ref (ad 99))] := hl
  refine lv_aload_n hx hb dL_left_0 rfl (lv_at hl 3 rfl) ?_
  refine lv_iconst (v := 0) hx hb dL_left_1 (by decide) ?_
  refine lv_aload_n hx hb dL_left_2 rfl (lv_at hl 0 rfl) ?_
  refine lv_iload_n hx hb dL_left_3 rfl (lv_at hl 1 rfl) ?_
  refine lv_iload_n hx hb dL_left_4 rfl (lv_at hl 2 rfl) ?_
  refine h_call (n := 2) (As := [.int a0, .int a1]) (rest := [.int 0, .ref (ad 99)]) (k := 100) (ci := 10) S hG hL (hlv.f (by decide) (by decide)) rfl rfl hM gL_left_X9_left rfl hrm (by decide +kernel) ⟨by { show rm.frames + 1 ≤ 8; omega }, by { show 8 + (3 + 11) + rm.locals ≤ 135; omega }⟩ rfl hl.1 rfl (Nat.le_of_ble_eq_true rfl) dL_left_5 ⟨by { show 0 + mc ≤ 1; omega }, by { show 0 + ms ≤ 6; omega }⟩ (fun ht9 ad1 H1 locs1 ha hG1 hL1 => ?_) (fun E hE9 H1 locs1 q c9 hG1 hL1 hc1 hv1 hf1 => ?_)
  ·
    have e99 : ad 99 = ad1 99 := (ha 99 (Or.inl ⟨by decide, h99⟩)).symm
    refine lv_i2l hx hb dL_left_8 rfl ?_
    refine g_lastE (ad := ad1) 99 e99 S.1 hK hG1 hL1 (Or.inl ⟨by decide, h99⟩) 5 ((if_pos (by decide)).trans hf) rfl h_in dL_left_9 (fun H2 locs2 hG2 hL2 => ?_)
    have hG3 := hG2
    rw [kJ_99] at hG3
    refine lv_goto (tgt := 17) hx hb dL_left_10 (by decide) ?_
    refine lv_iconst (v := 0) hx hb dL_left_17 (by decide) ?_
    exact h_iret S.1 hr hlocks hL2 (fun t ht => Or.inl ⟨ht9, ⟨ad1, vp_updL f (Int32.toNatClampNeg 0) v.toInt64, ha, rfl, fun v9 h9 => by { cases h9; rfl }, by { rw [ht]; exact hG3 }⟩⟩) dL_left_18 (by omega) (by omega)
  ·
    have hin := hthr E hE9
    cases List.mem_singleton.mp hin
    refine vx_catch (own := RL) (name := "java/lang/IndexOutOfBoundsException") (E := "java/lang/IndexOutOfBoundsException") hown [] ⟨0, 10, 13, 13⟩ [] (by rw [htab]; rfl) (fun z hz => absurd hz List.not_mem_nil) (by decide) (by decide) (hts (.classLink RL 13 "java/lang/IndexOutOfBoundsException") (by decide +kernel)) (va_Nw.use rfl (hE.2.2.1 ("java/lang/IndexOutOfBoundsException", "java/lang/IndexOutOfBoundsException") (by decide +kernel))) hc1 hv1 hf1 ?_
    refine lv_astore (lv' := [(4, .ref q), (0, .ref (ad 100)), (1, .int a0), (2, .int a1), (3, .ref (ad 99))]) hx hb dL_left_13 hl (by decide) rfl (fun ls9 hl9 => ?_)
    refine lv_iconst (v := 1) hx hb dL_left_15 (by decide) ?_
    exact h_iret S.1 hr hlocks hL1 (fun t ht => Or.inr ⟨"java/lang/IndexOutOfBoundsException", hE9, ad, f, fun _ _ => rfl, congrArg (fun z => Outcome.returned (some (Value.int z))) (show (1 : Int32) = hKd ["java/lang/IndexOutOfBoundsException"] "java/lang/IndexOutOfBoundsException" from by decide +kernel), (fun v9 h9 => nomatch h9), by { rw [ht, h_self hf]; exact hG1 }⟩) dL_left_16 (by omega) (by omega)
set_option maxHeartbeats 1000000 in
theorem hl_origin {l : Launch} {D : va_G} {cI cZ cB cO cR cJ : ClassId} {Hb : Heap} {K : kTx} {l0 : Nat → Prop} {ad : Nat → Nat} {ce0 : Nat → va_E} (h99 : l0 99) {f : Nat → Int64} (hf : ce0 99 = .inl (cJ, 1, .inr (.inl f))) {rm : Room} {mc ms : Nat} (hrm : rm.cells = mc ∧ rm.slots = ms) (hfr : rm.frames ≤ 7 ∧ rm.locals ≤ 113 ∧ mc ≤ 2 ∧ ms ≤ 12) {thr : Option String} {v : Int32} {s s1 s2 : Nat → Int32} {r r1 r2 : Nat → Nat → Int32} {a0 : Int32} (hthr : ∀ E, thr = some E → E ∈ (["java/lang/IndexOutOfBoundsException", "java/lang/IllegalStateException"] : List String))
    (hM : vx_Met l yX9_origin wsX9_origin rm (va_Pc [.ref (ad 100), .int a0] (kP D (tyL cI cZ cB cO cR cJ) Hb K (lvC l0 s) ad (kJ ce0 ad K.2.2.1 cI cB cO cR s r))) (cQ D Hb l0 ad thr (some (.int v)) ce0 K.2.2.1 cI cB cO cR s1 r1) (cX D Hb l0 ad thr ce0 K.2.2.1 cI cB cO cR s2 r2) mc ms (gA Hb)) :
    vx_Met l yL_origin wsL_origin { frames := 8, cells := 2, slots := 12, locals := 138 } (va_Pc [.ref (ad 100), .int a0, .ref (ad 99)] (hP D (tyL cI cZ cB cO cR cJ) Hb K (lvC l0 s) ad (kJ ce0 ad K.2.2.1 cI cB cO cR s r))) (hQ D Hb l0 ad ce0 K.2.2.1 cI cB cO cR cJ ["java/lang/IndexOutOfBoundsException", "java/lang/IllegalStateException"] thr (some v) s1 r1 s2 r2) (fun _ _ _ => False) 2 12 (gA Hb) := by
  refine vx_ofWH (cc := cL_origin) (maxL := 4) (ret := (some .int)) (hh := [(0, 9, 12, 13), (0, 9, 15, 17)]) (by decide) rfl ?_
  intro p0 e0 s0 m0 args below meth c0 s₁ B hml hv
  obtain ⟨rfl, ⟨hG, hK, hE⟩, hN⟩ := hv
  have hx := B.exec
  have hb := B.bytes
  have hr := B.returns
  have hts := atoms_spec (ws := wsL_origin) B.pre
  have htab := vx_table (x := yL_origin) B (hts _ List.mem_cons_self)
  have hown : s0.vm.findClass RL = some m0.cls := findClass_of_methodNamed B.named
  have hlocks := B.notSynchronized
  have S : kX p0 m0 c0 cL_origin 4 s0 _ wsL_origin RL D (tyL cI cZ cB cO cR cJ) Hb K := ⟨⟨hx, hb, hml, hown, hts⟩, hK, hE⟩
  have hL : gL Hb [] := gL.nil
  have hlv : kL (lvC l0 s) s := lvC_L
  have hl := lv_entry ([.ref (ad 100), .int a0, .ref (ad 99)]) (n := 4) (Nat.le_of_ble_eq_true rfl)
  rw [lg_entry_eq]
  generalize (lg_sl ([.ref (ad 100), .int a0, .ref (ad 99)]) ++ List.replicate (4 - (lg_sl ([.ref (ad 100), .int a0, .ref (ad 99)])).length) Slot.unset).toArray = ls at hl ⊢
  have hl : lv_has ls 4 [(0, .ref (ad 100)), (1, .int a0), (2, .ref (ad 99))] := hl
  refine lv_aload_n hx hb dL_origin_0 rfl (lv_at hl 2 rfl) ?_
  refine lv_iconst (v := 0) hx hb dL_origin_1 (by decide) ?_
  refine lv_aload_n hx hb dL_origin_2 rfl (lv_at hl 0 rfl) ?_
  refine lv_iload_n hx hb dL_origin_3 rfl (lv_at hl 1 rfl) ?_
  refine h_call (n := 1) (As := [.int a0]) (rest := [.int 0, .ref (ad 99)]) (k := 100) (ci := 10) S hG hL (hlv.f (by decide) (by decide)) rfl rfl hM gL_origin_X9_origin rfl hrm (by decide +kernel) ⟨by { show rm.frames + 1 ≤ 8; omega }, by { show 8 + (6 + 11) + rm.locals ≤ 138; omega }⟩ rfl hl.1 rfl (Nat.le_of_ble_eq_true rfl) dL_origin_4 ⟨by { show 0 + mc ≤ 2; omega }, by { show 0 + ms ≤ 12; omega }⟩ (fun ht9 ad1 H1 locs1 ha hG1 hL1 => ?_) (fun E hE9 H1 locs1 q c9 hG1 hL1 hc1 hv1 hf1 => ?_)
  ·
    have e99 : ad 99 = ad1 99 := (ha 99 (Or.inl ⟨by decide, h99⟩)).symm
    refine lv_i2l hx hb dL_origin_7 rfl ?_
    refine g_lastE (ad := ad1) 99 e99 S.1 hK hG1 hL1 (Or.inl ⟨by decide, h99⟩) 5 ((if_pos (by decide)).trans hf) rfl h_in dL_origin_8 (fun H2 locs2 hG2 hL2 => ?_)
    have hG3 := hG2
    rw [kJ_99] at hG3
    refine lv_goto (tgt := 18) hx hb dL_origin_9 (by decide) ?_
    refine lv_iconst (v := 0) hx hb dL_origin_18 (by decide) ?_
    exact h_iret S.1 hr hlocks hL2 (fun t ht => Or.inl ⟨ht9, ⟨ad1, vp_updL f (Int32.toNatClampNeg 0) v.toInt64, ha, rfl, fun v9 h9 => by { cases h9; rfl }, by { rw [ht]; exact hG3 }⟩⟩) dL_origin_19 (by omega) (by omega)
  ·
    have hin := hthr E hE9
    rcases List.mem_cons.mp hin with rfl | hin
    ·
      refine vx_catch (own := RL) (name := "java/lang/IndexOutOfBoundsException") (E := "java/lang/IndexOutOfBoundsException") hown [] ⟨0, 9, 12, 13⟩ [⟨0, 9, 15, 17⟩] (by rw [htab]; rfl) (fun z hz => absurd hz List.not_mem_nil) (by decide) (by decide) (hts (.classLink RL 13 "java/lang/IndexOutOfBoundsException") (by decide +kernel)) (va_Nw.use rfl (hE.2.2.1 ("java/lang/IndexOutOfBoundsException", "java/lang/IndexOutOfBoundsException") (by decide +kernel))) hc1 hv1 hf1 ?_
      refine lv_astore_n (lv' := [(3, .ref q), (0, .ref (ad 100)), (1, .int a0), (2, .ref (ad 99))]) hx hb dL_origin_12 rfl hl (by decide) rfl (fun ls9 hl9 => ?_)
      refine lv_iconst (v := 1) hx hb dL_origin_13 (by decide) ?_
      exact h_iret S.1 hr hlocks hL1 (fun t ht => Or.inr ⟨"java/lang/IndexOutOfBoundsException", hE9, ad, f, fun _ _ => rfl, congrArg (fun z => Outcome.returned (some (Value.int z))) (show (1 : Int32) = hKd ["java/lang/IndexOutOfBoundsException", "java/lang/IllegalStateException"] "java/lang/IndexOutOfBoundsException" from by decide +kernel), (fun v9 h9 => nomatch h9), by { rw [ht, h_self hf]; exact hG1 }⟩) dL_origin_14 (by omega) (by omega)
    ·
      cases List.mem_singleton.mp hin
      refine vx_catch (own := RL) (name := "java/lang/IllegalStateException") (E := "java/lang/IllegalStateException") hown [⟨0, 9, 12, 13⟩] ⟨0, 9, 15, 17⟩ [] (by rw [htab]; rfl) (fun z hz => (List.mem_cons.mp hz).elim (fun e9 => by { subst e9; exact Or.inr ⟨by decide, "java/lang/IndexOutOfBoundsException", hts (.classLink RL 13 "java/lang/IndexOutOfBoundsException") (by decide +kernel), hN _ (by decide) _ (by decide) (by decide)⟩ }) (fun hz => absurd hz List.not_mem_nil)) (by decide) (by decide) (hts (.classLink RL 17 "java/lang/IllegalStateException") (by decide +kernel)) (va_Nw.use rfl (hE.2.2.1 ("java/lang/IllegalStateException", "java/lang/IllegalStateException") (by decide +kernel))) hc1 hv1 hf1 ?_
      refine lv_astore_n (lv' := [(3, .ref q), (0, .ref (ad 100)), (1, .int a0), (2, .ref (ad 99))]) hx hb dL_origin_15 rfl hl (by decide) rfl (fun ls9 hl9 => ?_)
      refine lv_iconst (v := 2) hx hb dL_origin_16 (by decide) ?_
      exact h_iret S.1 hr hlocks hL1 (fun t ht => Or.inr ⟨"java/lang/IllegalStateException", hE9, ad, f, fun _ _ => rfl, congrArg (fun z => Outcome.returned (some (Value.int z))) (show (2 : Int32) = hKd ["java/lang/IndexOutOfBoundsException", "java/lang/IllegalStateException"] "java/lang/IllegalStateException" from by decide +kernel), (fun v9 h9 => nomatch h9), by { rw [ht, h_self hf]; exact hG1 }⟩) dL_origin_17 (by omega) (by omega)
set_option maxHeartbeats 1000000 in
theorem hl_look {l : Launch} {D : va_G} {cI cZ cB cO cR cJ : ClassId} {Hb : Heap} {K : kTx} {l0 : Nat → Prop} {ad : Nat → Nat} {ce0 : Nat → va_E} (h99 : l0 99) {f : Nat → Int64} (hf : ce0 99 = .inl (cJ, 1, .inr (.inl f))) {rm : Room} {mc ms : Nat} (hrm : rm.cells = mc ∧ rm.slots = ms) (hfr : rm.frames ≤ 7 ∧ rm.locals ≤ 113 ∧ mc ≤ 1 ∧ ms ≤ 6) {thr : Option String} {v : Int32} {s s1 s2 : Nat → Int32} {r r1 r2 : Nat → Nat → Int32} {a0 a1 : Int32} (hthr : ∀ E, thr = some E → E ∈ (["java/lang/IndexOutOfBoundsException", "java/util/NoSuchElementException"] : List String))
    (hM : vx_Met l yX9_look wqX9_look rm (va_Pc [.ref (ad 100), .int a0, .int a1] (kP D (tyL cI cZ cB cO cR cJ) Hb K (lvC l0 s) ad (kJ ce0 ad K.2.2.1 cI cB cO cR s r))) (cQ D Hb l0 ad thr (some (.int v)) ce0 K.2.2.1 cI cB cO cR s1 r1) (cX D Hb l0 ad thr ce0 K.2.2.1 cI cB cO cR s2 r2) mc ms (gA Hb)) :
    vx_Met l yL_look wsL_look { frames := 8, cells := 1, slots := 6, locals := 135 } (va_Pc [.ref (ad 100), .int a0, .int a1, .ref (ad 99)] (hP D (tyL cI cZ cB cO cR cJ) Hb K (lvC l0 s) ad (kJ ce0 ad K.2.2.1 cI cB cO cR s r))) (hQ D Hb l0 ad ce0 K.2.2.1 cI cB cO cR cJ ["java/lang/IndexOutOfBoundsException", "java/util/NoSuchElementException"] thr (some v) s1 r1 s2 r2) (fun _ _ _ => False) 1 6 (gA Hb) := by
  refine vx_ofWH (cc := cL_look) (maxL := 5) (ret := (some .int)) (hh := [(0, 10, 13, 13), (0, 10, 17, 60)]) (by decide) rfl ?_
  intro p0 e0 s0 m0 args below meth c0 s₁ B hml hv
  obtain ⟨rfl, ⟨hG, hK, hE⟩, hN⟩ := hv
  have hx := B.exec
  have hb := B.bytes
  have hr := B.returns
  have hts := atoms_spec (ws := wsL_look) B.pre
  have htab := vx_table (x := yL_look) B (hts _ List.mem_cons_self)
  have hown : s0.vm.findClass RL = some m0.cls := findClass_of_methodNamed B.named
  have hlocks := B.notSynchronized
  have S : kX p0 m0 c0 cL_look 5 s0 _ wsL_look RL D (tyL cI cZ cB cO cR cJ) Hb K := ⟨⟨hx, hb, hml, hown, hts⟩, hK, hE⟩
  have hL : gL Hb [] := gL.nil
  have hlv : kL (lvC l0 s) s := lvC_L
  have hl := lv_entry ([.ref (ad 100), .int a0, .int a1, .ref (ad 99)]) (n := 5) (Nat.le_of_ble_eq_true rfl)
  rw [lg_entry_eq]
  generalize (lg_sl ([.ref (ad 100), .int a0, .int a1, .ref (ad 99)]) ++ List.replicate (5 - (lg_sl ([.ref (ad 100), .int a0, .int a1, .ref (ad 99)])).length) Slot.unset).toArray = ls at hl ⊢
  have hl : lv_has ls 5 [(0, .ref (ad 100)), (1, .int a0), (2, .int a1), (3, .ref (ad 99))] := hl
  refine lv_aload_n hx hb dL_look_0 rfl (lv_at hl 3 rfl) ?_
  refine lv_iconst (v := 0) hx hb dL_look_1 (by decide) ?_
  refine lv_aload_n hx hb dL_look_2 rfl (lv_at hl 0 rfl) ?_
  refine lv_iload_n hx hb dL_look_3 rfl (lv_at hl 1 rfl) ?_
  refine lv_iload_n hx hb dL_look_4 rfl (lv_at hl 2 rfl) ?_
  refine h_call (n := 2) (As := [.int a0, .int a1]) (rest := [.int 0, .ref (ad 99)]) (k := 100) (ci := 10) S hG hL (hlv.f (by decide) (by decide)) rfl rfl hM gL_look_X9_look rfl hrm (by decide +kernel) ⟨by { show rm.frames + 1 ≤ 8; omega }, by { show 8 + (3 + 11) + rm.locals ≤ 135; omega }⟩ rfl hl.1 rfl (Nat.le_of_ble_eq_true rfl) dL_look_5 ⟨by { show 0 + mc ≤ 1; omega }, by { show 0 + ms ≤ 6; omega }⟩ (fun ht9 ad1 H1 locs1 ha hG1 hL1 => ?_) (fun E hE9 H1 locs1 q c9 hG1 hL1 hc1 hv1 hf1 => ?_)
  ·
    have e99 : ad 99 = ad1 99 := (ha 99 (Or.inl ⟨by decide, h99⟩)).symm
    refine lv_i2l hx hb dL_look_8 rfl ?_
    refine g_lastE (ad := ad1) 99 e99 S.1 hK hG1 hL1 (Or.inl ⟨by decide, h99⟩) 5 ((if_pos (by decide)).trans hf) rfl h_in dL_look_9 (fun H2 locs2 hG2 hL2 => ?_)
    have hG3 := hG2
    rw [kJ_99] at hG3
    refine lv_goto (tgt := 21) hx hb dL_look_10 (by decide) ?_
    refine lv_iconst (v := 0) hx hb dL_look_21 (by decide) ?_
    exact h_iret S.1 hr hlocks hL2 (fun t ht => Or.inl ⟨ht9, ⟨ad1, vp_updL f (Int32.toNatClampNeg 0) v.toInt64, ha, rfl, fun v9 h9 => by { cases h9; rfl }, by { rw [ht]; exact hG3 }⟩⟩) dL_look_22 (by omega) (by omega)
  ·
    have hin := hthr E hE9
    rcases List.mem_cons.mp hin with rfl | hin
    ·
      refine vx_catch (own := RL) (name := "java/lang/IndexOutOfBoundsException") (E := "java/lang/IndexOutOfBoundsException") hown [] ⟨0, 10, 13, 13⟩ [⟨0, 10, 17, 60⟩] (by rw [htab]; rfl) (fun z hz => absurd hz List.not_mem_nil) (by decide) (by decide) (hts (.classLink RL 13 "java/lang/IndexOutOfBoundsException") (by decide +kernel)) (va_Nw.use rfl (hE.2.2.1 ("java/lang/IndexOutOfBoundsException", "java/lang/IndexOutOfBoundsException") (by decide +kernel))) hc1 hv1 hf1 ?_
      refine lv_astore (lv' := [(4, .ref q), (0, .ref (ad 100)), (1, .int a0), (2, .int a1), (3, .ref (ad 99))]) hx hb dL_look_13 hl (by decide) rfl (fun ls9 hl9 => ?_)
      refine lv_iconst (v := 1) hx hb dL_look_15 (by decide) ?_
      exact h_iret S.1 hr hlocks hL1 (fun t ht => Or.inr ⟨"java/lang/IndexOutOfBoundsException", hE9, ad, f, fun _ _ => rfl, congrArg (fun z => Outcome.returned (some (Value.int z))) (show (1 : Int32) = hKd ["java/lang/IndexOutOfBoundsException", "java/util/NoSuchElementException"] "java/lang/IndexOutOfBoundsException" from by decide +kernel), (fun v9 h9 => nomatch h9), by { rw [ht, h_self hf]; exact hG1 }⟩) dL_look_16 (by omega) (by omega)
    ·
      cases List.mem_singleton.mp hin
      refine vx_catch (own := RL) (name := "java/util/NoSuchElementException") (E := "java/util/NoSuchElementException") hown [⟨0, 10, 13, 13⟩] ⟨0, 10, 17, 60⟩ [] (by rw [htab]; rfl) (fun z hz => (List.mem_cons.mp hz).elim (fun e9 => by { subst e9; exact Or.inr ⟨by decide, "java/lang/IndexOutOfBoundsException", hts (.classLink RL 13 "java/lang/IndexOutOfBoundsException") (by decide +kernel), hN _ (by decide) _ (by decide) (by decide)⟩ }) (fun hz => absurd hz List.not_mem_nil)) (by decide) (by decide) (hts (.classLink RL 60 "java/util/NoSuchElementException") (by decide +kernel)) (va_Nw.use rfl (hE.2.2.1 ("java/util/NoSuchElementException", "java/util/NoSuchElementException") (by decide +kernel))) hc1 hv1 hf1 ?_
      refine lv_astore (lv' := [(4, .ref q), (0, .ref (ad 100)), (1, .int a0), (2, .int a1), (3, .ref (ad 99))]) hx hb dL_look_17 hl (by decide) rfl (fun ls9 hl9 => ?_)
      refine lv_iconst (v := 2) hx hb dL_look_19 (by decide) ?_
      exact h_iret S.1 hr hlocks hL1 (fun t ht => Or.inr ⟨"java/util/NoSuchElementException", hE9, ad, f, fun _ _ => rfl, congrArg (fun z => Outcome.returned (some (Value.int z))) (show (2 : Int32) = hKd ["java/lang/IndexOutOfBoundsException", "java/util/NoSuchElementException"] "java/util/NoSuchElementException" from by decide +kernel), (fun v9 h9 => nomatch h9), by { rw [ht, h_self hf]; exact hG1 }⟩) dL_look_20 (by omega) (by omega)
set_option maxHeartbeats 1000000 in
theorem hl_swarm {l : Launch} {D : va_G} {cI cZ cB cO cR cJ : ClassId} {Hb : Heap} {K : kTx} {l0 : Nat → Prop} {ad : Nat → Nat} {ce0 : Nat → va_E} (h99 : l0 99) {f : Nat → Int64} (hf : ce0 99 = .inl (cJ, 1, .inr (.inl f))) {rm : Room} {mc ms : Nat} (hrm : rm.cells = mc ∧ rm.slots = ms) (hfr : rm.frames ≤ 7 ∧ rm.locals ≤ 113 ∧ mc ≤ 2 ∧ ms ≤ 12) {thr : Option String} {v : Int32} {s s1 s2 : Nat → Int32} {r r1 r2 : Nat → Nat → Int32} {a0 a1 : Int32} (hthr : ∀ E, thr = some E → E ∈ (["java/lang/IndexOutOfBoundsException", "java/util/NoSuchElementException"] : List String))
    (hM : vx_Met l yX9_swarm wqX9_swarm rm (va_Pc [.ref (ad 100), .int a0, .int a1] (kP D (tyL cI cZ cB cO cR cJ) Hb K (lvC l0 s) ad (kJ ce0 ad K.2.2.1 cI cB cO cR s r))) (cQ D Hb l0 ad thr (some (.int v)) ce0 K.2.2.1 cI cB cO cR s1 r1) (cX D Hb l0 ad thr ce0 K.2.2.1 cI cB cO cR s2 r2) mc ms (gA Hb)) :
    vx_Met l yL_swarm wsL_swarm { frames := 8, cells := 2, slots := 12, locals := 135 } (va_Pc [.ref (ad 100), .int a0, .int a1, .ref (ad 99)] (hP D (tyL cI cZ cB cO cR cJ) Hb K (lvC l0 s) ad (kJ ce0 ad K.2.2.1 cI cB cO cR s r))) (hQ D Hb l0 ad ce0 K.2.2.1 cI cB cO cR cJ ["java/lang/IndexOutOfBoundsException", "java/util/NoSuchElementException"] thr (some v) s1 r1 s2 r2) (fun _ _ _ => False) 2 12 (gA Hb) := by
  refine vx_ofWH (cc := cL_swarm) (maxL := 5) (ret := (some .int)) (hh := [(0, 10, 13, 13), (0, 10, 17, 60)]) (by decide) rfl ?_
  intro p0 e0 s0 m0 args below meth c0 s₁ B hml hv
  obtain ⟨rfl, ⟨hG, hK, hE⟩, hN⟩ := hv
  have hx := B.exec
  have hb := B.bytes
  have hr := B.returns
  have hts := atoms_spec (ws := wsL_swarm) B.pre
  have htab := vx_table (x := yL_swarm) B (hts _ List.mem_cons_self)
  have hown : s0.vm.findClass RL = some m0.cls := findClass_of_methodNamed B.named
  have hlocks := B.notSynchronized
  have S : kX p0 m0 c0 cL_swarm 5 s0 _ wsL_swarm RL D (tyL cI cZ cB cO cR cJ) Hb K := ⟨⟨hx, hb, hml, hown, hts⟩, hK, hE⟩
  have hL : gL Hb [] := gL.nil
  have hlv : kL (lvC l0 s) s := lvC_L
  have hl := lv_entry ([.ref (ad 100), .int a0, .int a1, .ref (ad 99)]) (n := 5) (Nat.le_of_ble_eq_true rfl)
  rw [lg_entry_eq]
  generalize (lg_sl ([.ref (ad 100), .int a0, .int a1, .ref (ad 99)]) ++ List.replicate (5 - (lg_sl ([.ref (ad 100), .int a0, .int a1, .ref (ad 99)])).length) Slot.unset).toArray = ls at hl ⊢
  have hl : lv_has ls 5 [(0, .ref (ad 100)), (1, .int a0), (2, .int a1), (3, .ref (ad 99))] := hl
  refine lv_aload_n hx hb dL_swarm_0 rfl (lv_at hl 3 rfl) ?_
  refine lv_iconst (v := 0) hx hb dL_swarm_1 (by decide) ?_
  refine lv_aload_n hx hb dL_swarm_2 rfl (lv_at hl 0 rfl) ?_
  refine lv_iload_n hx hb dL_swarm_3 rfl (lv_at hl 1 rfl) ?_
  refine lv_iload_n hx hb dL_swarm_4 rfl (lv_at hl 2 rfl) ?_
  refine h_call (n := 2) (As := [.int a0, .int a1]) (rest := [.int 0, .ref (ad 99)]) (k := 100) (ci := 10) S hG hL (hlv.f (by decide) (by decide)) rfl rfl hM gL_swarm_X9_swarm rfl hrm (by decide +kernel) ⟨by { show rm.frames + 1 ≤ 8; omega }, by { show 8 + (3 + 11) + rm.locals ≤ 135; omega }⟩ rfl hl.1 rfl (Nat.le_of_ble_eq_true rfl) dL_swarm_5 ⟨by { show 0 + mc ≤ 2; omega }, by { show 0 + ms ≤ 12; omega }⟩ (fun ht9 ad1 H1 locs1 ha hG1 hL1 => ?_) (fun E hE9 H1 locs1 q c9 hG1 hL1 hc1 hv1 hf1 => ?_)
  ·
    have e99 : ad 99 = ad1 99 := (ha 99 (Or.inl ⟨by decide, h99⟩)).symm
    refine lv_i2l hx hb dL_swarm_8 rfl ?_
    refine g_lastE (ad := ad1) 99 e99 S.1 hK hG1 hL1 (Or.inl ⟨by decide, h99⟩) 5 ((if_pos (by decide)).trans hf) rfl h_in dL_swarm_9 (fun H2 locs2 hG2 hL2 => ?_)
    have hG3 := hG2
    rw [kJ_99] at hG3
    refine lv_goto (tgt := 21) hx hb dL_swarm_10 (by decide) ?_
    refine lv_iconst (v := 0) hx hb dL_swarm_21 (by decide) ?_
    exact h_iret S.1 hr hlocks hL2 (fun t ht => Or.inl ⟨ht9, ⟨ad1, vp_updL f (Int32.toNatClampNeg 0) v.toInt64, ha, rfl, fun v9 h9 => by { cases h9; rfl }, by { rw [ht]; exact hG3 }⟩⟩) dL_swarm_22 (by omega) (by omega)
  ·
    have hin := hthr E hE9
    rcases List.mem_cons.mp hin with rfl | hin
    ·
      refine vx_catch (own := RL) (name := "java/lang/IndexOutOfBoundsException") (E := "java/lang/IndexOutOfBoundsException") hown [] ⟨0, 10, 13, 13⟩ [⟨0, 10, 17, 60⟩] (by rw [htab]; rfl) (fun z hz => absurd hz List.not_mem_nil) (by decide) (by decide) (hts (.classLink RL 13 "java/lang/IndexOutOfBoundsException") (by decide +kernel)) (va_Nw.use rfl (hE.2.2.1 ("java/lang/IndexOutOfBoundsException", "java/lang/IndexOutOfBoundsException") (by decide +kernel))) hc1 hv1 hf1 ?_
      refine lv_astore (lv' := [(4, .ref q), (0, .ref (ad 100)), (1, .int a0), (2, .int a1), (3, .ref (ad 99))]) hx hb dL_swarm_13 hl (by decide) rfl (fun ls9 hl9 => ?_)
      refine lv_iconst (v := 1) hx hb dL_swarm_15 (by decide) ?_
      exact h_iret S.1 hr hlocks hL1 (fun t ht => Or.inr ⟨"java/lang/IndexOutOfBoundsException", hE9, ad, f, fun _ _ => rfl, congrArg (fun z => Outcome.returned (some (Value.int z))) (show (1 : Int32) = hKd ["java/lang/IndexOutOfBoundsException", "java/util/NoSuchElementException"] "java/lang/IndexOutOfBoundsException" from by decide +kernel), (fun v9 h9 => nomatch h9), by { rw [ht, h_self hf]; exact hG1 }⟩) dL_swarm_16 (by omega) (by omega)
    ·
      cases List.mem_singleton.mp hin
      refine vx_catch (own := RL) (name := "java/util/NoSuchElementException") (E := "java/util/NoSuchElementException") hown [⟨0, 10, 13, 13⟩] ⟨0, 10, 17, 60⟩ [] (by rw [htab]; rfl) (fun z hz => (List.mem_cons.mp hz).elim (fun e9 => by { subst e9; exact Or.inr ⟨by decide, "java/lang/IndexOutOfBoundsException", hts (.classLink RL 13 "java/lang/IndexOutOfBoundsException") (by decide +kernel), hN _ (by decide) _ (by decide) (by decide)⟩ }) (fun hz => absurd hz List.not_mem_nil)) (by decide) (by decide) (hts (.classLink RL 60 "java/util/NoSuchElementException") (by decide +kernel)) (va_Nw.use rfl (hE.2.2.1 ("java/util/NoSuchElementException", "java/util/NoSuchElementException") (by decide +kernel))) hc1 hv1 hf1 ?_
      refine lv_astore (lv' := [(4, .ref q), (0, .ref (ad 100)), (1, .int a0), (2, .int a1), (3, .ref (ad 99))]) hx hb dL_swarm_17 hl (by decide) rfl (fun ls9 hl9 => ?_)
      refine lv_iconst (v := 2) hx hb dL_swarm_19 (by decide) ?_
      exact h_iret S.1 hr hlocks hL1 (fun t ht => Or.inr ⟨"java/util/NoSuchElementException", hE9, ad, f, fun _ _ => rfl, congrArg (fun z => Outcome.returned (some (Value.int z))) (show (2 : Int32) = hKd ["java/lang/IndexOutOfBoundsException", "java/util/NoSuchElementException"] "java/util/NoSuchElementException" from by decide +kernel), (fun v9 h9 => nomatch h9), by { rw [ht, h_self hf]; exact hG1 }⟩) dL_swarm_20 (by omega) (by omega)
set_option maxHeartbeats 1000000 in
theorem hl_crew {l : Launch} {D : va_G} {cI cZ cB cO cR cJ : ClassId} {Hb : Heap} {K : kTx} {l0 : Nat → Prop} {ad : Nat → Nat} {ce0 : Nat → va_E} (h99 : l0 99) {f : Nat → Int64} (hf : ce0 99 = .inl (cJ, 1, .inr (.inl f))) {rm : Room} {mc ms : Nat} (hrm : rm.cells = mc ∧ rm.slots = ms) (hfr : rm.frames ≤ 7 ∧ rm.locals ≤ 113 ∧ mc ≤ 2 ∧ ms ≤ 12) {thr : Option String} {v : Int32} {s s1 s2 : Nat → Int32} {r r1 r2 : Nat → Nat → Int32} {a0 a1 : Int32} (hthr : ∀ E, thr = some E → E ∈ (["java/lang/IndexOutOfBoundsException", "java/util/NoSuchElementException"] : List String))
    (hM : vx_Met l yX9_crew wqX9_crew rm (va_Pc [.ref (ad 100), .int a0, .int a1] (kP D (tyL cI cZ cB cO cR cJ) Hb K (lvC l0 s) ad (kJ ce0 ad K.2.2.1 cI cB cO cR s r))) (cQ D Hb l0 ad thr (some (.int v)) ce0 K.2.2.1 cI cB cO cR s1 r1) (cX D Hb l0 ad thr ce0 K.2.2.1 cI cB cO cR s2 r2) mc ms (gA Hb)) :
    vx_Met l yL_crew wsL_crew { frames := 8, cells := 2, slots := 12, locals := 135 } (va_Pc [.ref (ad 100), .int a0, .int a1, .ref (ad 99)] (hP D (tyL cI cZ cB cO cR cJ) Hb K (lvC l0 s) ad (kJ ce0 ad K.2.2.1 cI cB cO cR s r))) (hQ D Hb l0 ad ce0 K.2.2.1 cI cB cO cR cJ ["java/lang/IndexOutOfBoundsException", "java/util/NoSuchElementException"] thr (some v) s1 r1 s2 r2) (fun _ _ _ => False) 2 12 (gA Hb) := by
  refine vx_ofWH (cc := cL_crew) (maxL := 5) (ret := (some .int)) (hh := [(0, 10, 13, 13), (0, 10, 17, 60)]) (by decide) rfl ?_
  intro p0 e0 s0 m0 args below meth c0 s₁ B hml hv
  obtain ⟨rfl, ⟨hG, hK, hE⟩, hN⟩ := hv
  have hx := B.exec
  have hb := B.bytes
  have hr := B.returns
  have hts := atoms_spec (ws := wsL_crew) B.pre
  have htab := vx_table (x := yL_crew) B (hts _ List.mem_cons_self)
  have hown : s0.vm.findClass RL = some m0.cls := findClass_of_methodNamed B.named
  have hlocks := B.notSynchronized
  have S : kX p0 m0 c0 cL_crew 5 s0 _ wsL_crew RL D (tyL cI cZ cB cO cR cJ) Hb K := ⟨⟨hx, hb, hml, hown, hts⟩, hK, hE⟩
  have hL : gL Hb [] := gL.nil
  have hlv : kL (lvC l0 s) s := lvC_L
  have hl := lv_entry ([.ref (ad 100), .int a0, .int a1, .ref (ad 99)]) (n := 5) (Nat.le_of_ble_eq_true rfl)
  rw [lg_entry_eq]
  generalize (lg_sl ([.ref (ad 100), .int a0, .int a1, .ref (ad 99)]) ++ List.replicate (5 - (lg_sl ([.ref (ad 100), .int a0, .int a1, .ref (ad 99)])).length) Slot.unset).toArray = ls at hl ⊢
  have hl : lv_has ls 5 [(0, .ref (ad 100)), (1, .int a0), (2, .int a1), (3, .ref (ad 99))] := hl
  refine lv_aload_n hx hb dL_crew_0 rfl (lv_at hl 3 rfl) ?_
  refine lv_iconst (v := 0) hx hb dL_crew_1 (by decide) ?_
  refine lv_aload_n hx hb dL_crew_2 rfl (lv_at hl 0 rfl) ?_
  refine lv_iload_n hx hb dL_crew_3 rfl (lv_at hl 1 rfl) ?_
  refine lv_iload_n hx hb dL_crew_4 rfl (lv_at hl 2 rfl) ?_
  refine h_call (n := 2) (As := [.int a0, .int a1]) (rest := [.int 0, .ref (ad 99)]) (k := 100) (ci := 10) S hG hL (hlv.f (by decide) (by decide)) rfl rfl hM gL_crew_X9_crew rfl hrm (by decide +kernel) ⟨by { show rm.frames + 1 ≤ 8; omega }, by { show 8 + (3 + 11) + rm.locals ≤ 135; omega }⟩ rfl hl.1 rfl (Nat.le_of_ble_eq_true rfl) dL_crew_5 ⟨by { show 0 + mc ≤ 2; omega }, by { show 0 + ms ≤ 12; omega }⟩ (fun ht9 ad1 H1 locs1 ha hG1 hL1 => ?_) (fun E hE9 H1 locs1 q c9 hG1 hL1 hc1 hv1 hf1 => ?_)
  ·
    have e99 : ad 99 = ad1 99 := (ha 99 (Or.inl ⟨by decide, h99⟩)).symm
    refine lv_i2l hx hb dL_crew_8 rfl ?_
    refine g_lastE (ad := ad1) 99 e99 S.1 hK hG1 hL1 (Or.inl ⟨by decide, h99⟩) 5 ((if_pos (by decide)).trans hf) rfl h_in dL_crew_9 (fun H2 locs2 hG2 hL2 => ?_)
    have hG3 := hG2
    rw [kJ_99] at hG3
    refine lv_goto (tgt := 21) hx hb dL_crew_10 (by decide) ?_
    refine lv_iconst (v := 0) hx hb dL_crew_21 (by decide) ?_
    exact h_iret S.1 hr hlocks hL2 (fun t ht => Or.inl ⟨ht9, ⟨ad1, vp_updL f (Int32.toNatClampNeg 0) v.toInt64, ha, rfl, fun v9 h9 => by { cases h9; rfl }, by { rw [ht]; exact hG3 }⟩⟩) dL_crew_22 (by omega) (by omega)
  ·
    have hin := hthr E hE9
    rcases List.mem_cons.mp hin with rfl | hin
    ·
      refine vx_catch (own := RL) (name := "java/lang/IndexOutOfBoundsException") (E := "java/lang/IndexOutOfBoundsException") hown [] ⟨0, 10, 13, 13⟩ [⟨0, 10, 17, 60⟩] (by rw [htab]; rfl) (fun z hz => absurd hz List.not_mem_nil) (by decide) (by decide) (hts (.classLink RL 13 "java/lang/IndexOutOfBoundsException") (by decide +kernel)) (va_Nw.use rfl (hE.2.2.1 ("java/lang/IndexOutOfBoundsException", "java/lang/IndexOutOfBoundsException") (by decide +kernel))) hc1 hv1 hf1 ?_
      refine lv_astore (lv' := [(4, .ref q), (0, .ref (ad 100)), (1, .int a0), (2, .int a1), (3, .ref (ad 99))]) hx hb dL_crew_13 hl (by decide) rfl (fun ls9 hl9 => ?_)
      refine lv_iconst (v := 1) hx hb dL_crew_15 (by decide) ?_
      exact h_iret S.1 hr hlocks hL1 (fun t ht => Or.inr ⟨"java/lang/IndexOutOfBoundsException", hE9, ad, f, fun _ _ => rfl, congrArg (fun z => Outcome.returned (some (Value.int z))) (show (1 : Int32) = hKd ["java/lang/IndexOutOfBoundsException", "java/util/NoSuchElementException"] "java/lang/IndexOutOfBoundsException" from by decide +kernel), (fun v9 h9 => nomatch h9), by { rw [ht, h_self hf]; exact hG1 }⟩) dL_crew_16 (by omega) (by omega)
    ·
      cases List.mem_singleton.mp hin
      refine vx_catch (own := RL) (name := "java/util/NoSuchElementException") (E := "java/util/NoSuchElementException") hown [⟨0, 10, 13, 13⟩] ⟨0, 10, 17, 60⟩ [] (by rw [htab]; rfl) (fun z hz => (List.mem_cons.mp hz).elim (fun e9 => by { subst e9; exact Or.inr ⟨by decide, "java/lang/IndexOutOfBoundsException", hts (.classLink RL 13 "java/lang/IndexOutOfBoundsException") (by decide +kernel), hN _ (by decide) _ (by decide) (by decide)⟩ }) (fun hz => absurd hz List.not_mem_nil)) (by decide) (by decide) (hts (.classLink RL 60 "java/util/NoSuchElementException") (by decide +kernel)) (va_Nw.use rfl (hE.2.2.1 ("java/util/NoSuchElementException", "java/util/NoSuchElementException") (by decide +kernel))) hc1 hv1 hf1 ?_
      refine lv_astore (lv' := [(4, .ref q), (0, .ref (ad 100)), (1, .int a0), (2, .int a1), (3, .ref (ad 99))]) hx hb dL_crew_17 hl (by decide) rfl (fun ls9 hl9 => ?_)
      refine lv_iconst (v := 2) hx hb dL_crew_19 (by decide) ?_
      exact h_iret S.1 hr hlocks hL1 (fun t ht => Or.inr ⟨"java/util/NoSuchElementException", hE9, ad, f, fun _ _ => rfl, congrArg (fun z => Outcome.returned (some (Value.int z))) (show (2 : Int32) = hKd ["java/lang/IndexOutOfBoundsException", "java/util/NoSuchElementException"] "java/util/NoSuchElementException" from by decide +kernel), (fun v9 h9 => nomatch h9), by { rw [ht, h_self hf]; exact hG1 }⟩) dL_crew_20 (by omega) (by omega)
set_option maxHeartbeats 1000000 in
theorem hl_matter {l : Launch} {D : va_G} {cI cZ cB cO cR cJ : ClassId} {Hb : Heap} {K : kTx} {l0 : Nat → Prop} {ad : Nat → Nat} {ce0 : Nat → va_E} (h99 : l0 99) {f : Nat → Int64} (hf : ce0 99 = .inl (cJ, 1, .inr (.inl f))) {rm : Room} {mc ms : Nat} (hrm : rm.cells = mc ∧ rm.slots = ms) (hfr : rm.frames ≤ 7 ∧ rm.locals ≤ 113 ∧ mc ≤ 2 ∧ ms ≤ 12) {thr : Option String} {v : Int32} {s s1 s2 : Nat → Int32} {r r1 r2 : Nat → Nat → Int32} {a0 a1 : Int32} (hthr : ∀ E, thr = some E → E ∈ (["java/lang/IndexOutOfBoundsException", "java/util/NoSuchElementException"] : List String))
    (hM : vx_Met l yX9_matter wqX9_matter rm (va_Pc [.ref (ad 100), .int a0, .int a1] (kP D (tyL cI cZ cB cO cR cJ) Hb K (lvC l0 s) ad (kJ ce0 ad K.2.2.1 cI cB cO cR s r))) (cQ D Hb l0 ad thr (some (.int v)) ce0 K.2.2.1 cI cB cO cR s1 r1) (cX D Hb l0 ad thr ce0 K.2.2.1 cI cB cO cR s2 r2) mc ms (gA Hb)) :
    vx_Met l yL_matter wsL_matter { frames := 8, cells := 2, slots := 12, locals := 135 } (va_Pc [.ref (ad 100), .int a0, .int a1, .ref (ad 99)] (hP D (tyL cI cZ cB cO cR cJ) Hb K (lvC l0 s) ad (kJ ce0 ad K.2.2.1 cI cB cO cR s r))) (hQ D Hb l0 ad ce0 K.2.2.1 cI cB cO cR cJ ["java/lang/IndexOutOfBoundsException", "java/util/NoSuchElementException"] thr (some v) s1 r1 s2 r2) (fun _ _ _ => False) 2 12 (gA Hb) := by
  refine vx_ofWH (cc := cL_matter) (maxL := 5) (ret := (some .int)) (hh := [(0, 10, 13, 13), (0, 10, 17, 60)]) (by decide) rfl ?_
  intro p0 e0 s0 m0 args below meth c0 s₁ B hml hv
  obtain ⟨rfl, ⟨hG, hK, hE⟩, hN⟩ := hv
  have hx := B.exec
  have hb := B.bytes
  have hr := B.returns
  have hts := atoms_spec (ws := wsL_matter) B.pre
  have htab := vx_table (x := yL_matter) B (hts _ List.mem_cons_self)
  have hown : s0.vm.findClass RL = some m0.cls := findClass_of_methodNamed B.named
  have hlocks := B.notSynchronized
  have S : kX p0 m0 c0 cL_matter 5 s0 _ wsL_matter RL D (tyL cI cZ cB cO cR cJ) Hb K := ⟨⟨hx, hb, hml, hown, hts⟩, hK, hE⟩
  have hL : gL Hb [] := gL.nil
  have hlv : kL (lvC l0 s) s := lvC_L
  have hl := lv_entry ([.ref (ad 100), .int a0, .int a1, .ref (ad 99)]) (n := 5) (Nat.le_of_ble_eq_true rfl)
  rw [lg_entry_eq]
  generalize (lg_sl ([.ref (ad 100), .int a0, .int a1, .ref (ad 99)]) ++ List.replicate (5 - (lg_sl ([.ref (ad 100), .int a0, .int a1, .ref (ad 99)])).length) Slot.unset).toArray = ls at hl ⊢
  have hl : lv_has ls 5 [(0, .ref (ad 100)), (1, .int a0), (2, .int a1), (3, .ref (ad 99))] := hl
  refine lv_aload_n hx hb dL_matter_0 rfl (lv_at hl 3 rfl) ?_
  refine lv_iconst (v := 0) hx hb dL_matter_1 (by decide) ?_
  refine lv_aload_n hx hb dL_matter_2 rfl (lv_at hl 0 rfl) ?_
  refine lv_iload_n hx hb dL_matter_3 rfl (lv_at hl 1 rfl) ?_
  refine lv_iload_n hx hb dL_matter_4 rfl (lv_at hl 2 rfl) ?_
  refine h_call (n := 2) (As := [.int a0, .int a1]) (rest := [.int 0, .ref (ad 99)]) (k := 100) (ci := 10) S hG hL (hlv.f (by decide) (by decide)) rfl rfl hM gL_matter_X9_matter rfl hrm (by decide +kernel) ⟨by { show rm.frames + 1 ≤ 8; omega }, by { show 8 + (3 + 11) + rm.locals ≤ 135; omega }⟩ rfl hl.1 rfl (Nat.le_of_ble_eq_true rfl) dL_matter_5 ⟨by { show 0 + mc ≤ 2; omega }, by { show 0 + ms ≤ 12; omega }⟩ (fun ht9 ad1 H1 locs1 ha hG1 hL1 => ?_) (fun E hE9 H1 locs1 q c9 hG1 hL1 hc1 hv1 hf1 => ?_)
  ·
    have e99 : ad 99 = ad1 99 := (ha 99 (Or.inl ⟨by decide, h99⟩)).symm
    refine lv_i2l hx hb dL_matter_8 rfl ?_
    refine g_lastE (ad := ad1) 99 e99 S.1 hK hG1 hL1 (Or.inl ⟨by decide, h99⟩) 5 ((if_pos (by decide)).trans hf) rfl h_in dL_matter_9 (fun H2 locs2 hG2 hL2 => ?_)
    have hG3 := hG2
    rw [kJ_99] at hG3
    refine lv_goto (tgt := 21) hx hb dL_matter_10 (by decide) ?_
    refine lv_iconst (v := 0) hx hb dL_matter_21 (by decide) ?_
    exact h_iret S.1 hr hlocks hL2 (fun t ht => Or.inl ⟨ht9, ⟨ad1, vp_updL f (Int32.toNatClampNeg 0) v.toInt64, ha, rfl, fun v9 h9 => by { cases h9; rfl }, by { rw [ht]; exact hG3 }⟩⟩) dL_matter_22 (by omega) (by omega)
  ·
    have hin := hthr E hE9
    rcases List.mem_cons.mp hin with rfl | hin
    ·
      refine vx_catch (own := RL) (name := "java/lang/IndexOutOfBoundsException") (E := "java/lang/IndexOutOfBoundsException") hown [] ⟨0, 10, 13, 13⟩ [⟨0, 10, 17, 60⟩] (by rw [htab]; rfl) (fun z hz => absurd hz List.not_mem_nil) (by decide) (by decide) (hts (.classLink RL 13 "java/lang/IndexOutOfBoundsException") (by decide +kernel)) (va_Nw.use rfl (hE.2.2.1 ("java/lang/IndexOutOfBoundsException", "java/lang/IndexOutOfBoundsException") (by decide +kernel))) hc1 hv1 hf1 ?_
      refine lv_astore (lv' := [(4, .ref q), (0, .ref (ad 100)), (1, .int a0), (2, .int a1), (3, .ref (ad 99))]) hx hb dL_matter_13 hl (by decide) rfl (fun ls9 hl9 => ?_)
      refine lv_iconst (v := 1) hx hb dL_matter_15 (by decide) ?_
      exact h_iret S.1 hr hlocks hL1 (fun t ht => Or.inr ⟨"java/lang/IndexOutOfBoundsException", hE9, ad, f, fun _ _ => rfl, congrArg (fun z => Outcome.returned (some (Value.int z))) (show (1 : Int32) = hKd ["java/lang/IndexOutOfBoundsException", "java/util/NoSuchElementException"] "java/lang/IndexOutOfBoundsException" from by decide +kernel), (fun v9 h9 => nomatch h9), by { rw [ht, h_self hf]; exact hG1 }⟩) dL_matter_16 (by omega) (by omega)
    ·
      cases List.mem_singleton.mp hin
      refine vx_catch (own := RL) (name := "java/util/NoSuchElementException") (E := "java/util/NoSuchElementException") hown [⟨0, 10, 13, 13⟩] ⟨0, 10, 17, 60⟩ [] (by rw [htab]; rfl) (fun z hz => (List.mem_cons.mp hz).elim (fun e9 => by { subst e9; exact Or.inr ⟨by decide, "java/lang/IndexOutOfBoundsException", hts (.classLink RL 13 "java/lang/IndexOutOfBoundsException") (by decide +kernel), hN _ (by decide) _ (by decide) (by decide)⟩ }) (fun hz => absurd hz List.not_mem_nil)) (by decide) (by decide) (hts (.classLink RL 60 "java/util/NoSuchElementException") (by decide +kernel)) (va_Nw.use rfl (hE.2.2.1 ("java/util/NoSuchElementException", "java/util/NoSuchElementException") (by decide +kernel))) hc1 hv1 hf1 ?_
      refine lv_astore (lv' := [(4, .ref q), (0, .ref (ad 100)), (1, .int a0), (2, .int a1), (3, .ref (ad 99))]) hx hb dL_matter_17 hl (by decide) rfl (fun ls9 hl9 => ?_)
      refine lv_iconst (v := 2) hx hb dL_matter_19 (by decide) ?_
      exact h_iret S.1 hr hlocks hL1 (fun t ht => Or.inr ⟨"java/util/NoSuchElementException", hE9, ad, f, fun _ _ => rfl, congrArg (fun z => Outcome.returned (some (Value.int z))) (show (2 : Int32) = hKd ["java/lang/IndexOutOfBoundsException", "java/util/NoSuchElementException"] "java/util/NoSuchElementException" from by decide +kernel), (fun v9 h9 => nomatch h9), by { rw [ht, h_self hf]; exact hG1 }⟩) dL_matter_20 (by omega) (by omega)
