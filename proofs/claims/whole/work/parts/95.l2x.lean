/-! left's helper with more room -/
set_option maxHeartbeats 1000000 in
theorem hl_leftW {l : Launch} {D : va_G} {cI cZ cB cO cR cJ : ClassId} {Hb : Heap} {K : kTx} {l0 : Nat → Prop} {ad : Nat → Nat} {ce0 : Nat → va_E} (h99 : l0 99) {f : Nat → Int64} (hf : ce0 99 = .inl (cJ, 1, .inr (.inl f))) {rm : Room} {mc ms : Nat} (hrm : rm.cells = mc ∧ rm.slots = ms) (hfr : rm.frames ≤ 7 ∧ rm.locals ≤ 135 ∧ mc ≤ 1 ∧ ms ≤ 6) {thr : Option String} {v : Int32} {s s1 s2 : Nat → Int32} {r r1 r2 : Nat → Nat → Int32} {a0 a1 : Int32} (hthr : ∀ E, thr = some E → E ∈ (["java/lang/IndexOutOfBoundsException"] : List String))
    (hM : vx_Met l yX9_left wsX9_left rm (va_Pc [.ref (ad 100), .int a0, .int a1] (kP D (tyL cI cZ cB cO cR cJ) Hb K (lvC l0 s) ad (kJ ce0 ad K.2.2.1 cI cB cO cR s r))) (cQ D Hb l0 ad thr (some (.int v)) ce0 K.2.2.1 cI cB cO cR s1 r1) (cX D Hb l0 ad thr ce0 K.2.2.1 cI cB cO cR s2 r2) mc ms (gA Hb)) :
    vx_Met l yL_left wsL_left { frames := 8, cells := 1, slots := 6, locals := 157 } (va_Pc [.ref (ad 100), .int a0, .int a1, .ref (ad 99)] (hP D (tyL cI cZ cB cO cR cJ) Hb K (lvC l0 s) ad (kJ ce0 ad K.2.2.1 cI cB cO cR s r))) (hQ D Hb l0 ad ce0 K.2.2.1 cI cB cO cR cJ ["java/lang/IndexOutOfBoundsException"] thr (some v) s1 r1 s2 r2) (fun _ _ _ => False) 1 6 (gA Hb) := by
  refine vx_ofWH (cc := cL_left) (maxL := 5) (ret := (some .int)) (hh := [(0, 10, 13, 13)]) (by decide) rfl ?_
  intro p0 e0 s0 m0 args below meth c0 s₁ B hml hv
  obtain ⟨rfl, ⟨hG, hK, hE⟩, hN⟩ := hv
  have hx := B.exec
  have hb := B.bytes
  have hr := B.returns
  have hts := atoms_spec (ws := wsL_left) B.pre
  have htab := vx_table (x := yL_left) B (hts _ List.mem_cons_self)
  have hown : s0.vm.findClass RL = some m0.cls := findClass_of_methodNamed B.named
  have hlocks := B.notSynchronized
  have S : kX p0 m0 c0 cL_left 5 s0 _ wsL_left RL D (tyL cI cZ cB cO cR cJ) Hb K := ⟨⟨hx, hb, hml, hown, hts⟩, hK, hE⟩
  have hL : gL Hb [] := gL.nil
  have hlv : kL (lvC l0 s) s := lvC_L
  have hl := lv_entry ([.ref (ad 100), .int a0, .int a1, .ref (ad 99)]) (n := 5) (Nat.le_of_ble_eq_true rfl)
  rw [lg_entry_eq]
  generalize (lg_sl ([.ref (ad 100), .int a0, .int a1, .ref (ad 99)]) ++ List.replicate (5 - (lg_sl ([.ref (ad 100), .int a0, .int a1, .ref (ad 99)])).length) Slot.unset).toArray = ls at hl ⊢
  have hl : lv_has ls 5 [(0, .ref (ad 100)), (1, .int a0), (2, .int a1), (3, .ref (ad 99))] := hl
  refine lv_aload_n hx hb dL_left_0 rfl (lv_at hl 3 rfl) ?_
  refine lv_iconst (v := 0) hx hb dL_left_1 (by decide) ?_
  refine lv_aload_n hx hb dL_left_2 rfl (lv_at hl 0 rfl) ?_
  refine lv_iload_n hx hb dL_left_3 rfl (lv_at hl 1 rfl) ?_
  refine lv_iload_n hx hb dL_left_4 rfl (lv_at hl 2 rfl) ?_
  refine h_call (n := 2) (As := [.int a0, .int a1]) (rest := [.int 0, .ref (ad 99)]) (k := 100) (ci := 10) S hG hL (hlv.f (by decide) (by decide)) rfl rfl hM gL_left_X9_left rfl hrm (by decide +kernel) ⟨by { show rm.frames + 1 ≤ 8; omega }, by { show 8 + (3 + 11) + rm.locals ≤ 157; omega }⟩ rfl hl.1 rfl (Nat.le_of_ble_eq_true rfl) dL_left_5 ⟨by { show 0 + mc ≤ 1; omega }, by { show 0 + ms ≤ 6; omega }⟩ (fun ht9 ad1 H1 locs1 ha hG1 hL1 => ?_) (fun E hE9 H1 locs1 q c9 hG1 hL1 hc1 hv1 hf1 => ?_)
  ·
    have e99 : ad 99 = ad1 99 := (ha 99 (Or.inl ⟨by decide, h99⟩)).symm
    refine lv_i2l hx hb dL_left_8 rfl ?_
    refine g_lastE (ad := ad1) 99 e99 S.1 hK hG1 hL1 (Or.inl ⟨by decide, h99⟩) 5 ((if_pos (by decide)).trans hf) rfl h_in dL_left_9 (fun H2 locs2 hG2 hL2 => ?_)
    have hG3 := hG2
    rw [kJ_99] at hG3
    refine lv_goto (tgt := 17) hx hb dL_left_10 (by decide) ?_
    refine lv_iconst (v := 0) hx hb dL_left_17 (by decide) ?_
    exact h_iret S.1 hr hlocks hL2 (fun t ht => Or.inl ⟨ht9, ⟨ad1, vp_updL f (Int32.toNatClampNeg 0) v.toInt64, ha, rfl, fun v9 h9 => by { cases h9; rfl }, by { rw [ht]; exact hG3 }⟩⟩) dL_left_18 (by omega) (by omega)
  ·
    have hin := hthr E hE9
    cases List.mem_singleton.mp hin
    refine vx_catch (own := RL) (name := "java/lang/IndexOutOfBoundsException") (E := "java/lang/IndexOutOfBoundsException") hown [] ⟨0, 10, 13, 13⟩ [] (by rw [htab]; rfl) (fun z hz => absurd hz List.not_mem_nil) (by decide) (by decide) (hts (.classLink RL 13 "java/lang/IndexOutOfBoundsException") (by decide +kernel)) (va_Nw.use rfl (hE.2.2.1 ("java/lang/IndexOutOfBoundsException", "java/lang/IndexOutOfBoundsException") (by decide +kernel))) hc1 hv1 hf1 ?_
    refine lv_astore (lv' := [(4, .ref q), (0, .ref (ad 100)), (1, .int a0), (2, .int a1), (3, .ref (ad 99))]) hx hb dL_left_13 hl (by decide) rfl (fun ls9 hl9 => ?_)
    refine lv_iconst (v := 1) hx hb dL_left_15 (by decide) ?_
    exact h_iret S.1 hr hlocks hL1 (fun t ht => Or.inr ⟨"java/lang/IndexOutOfBoundsException", hE9, ad, f, fun _ _ => rfl, congrArg (fun z => Outcome.returned (some (Value.int z))) (show (1 : Int32) = hKd ["java/lang/IndexOutOfBoundsException"] "java/lang/IndexOutOfBoundsException" from by decide +kernel), (fun v9 h9 => nomatch h9), by { rw [ht, h_self hf]; exact hG1 }⟩) dL_left_16 (by omega) (by omega)
