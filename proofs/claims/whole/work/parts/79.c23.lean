/-! hours -/
def xHs (a : Int32) : Option String := if fIn a 0 100 = 0 then some "java/lang/IllegalArgumentException" else none
noncomputable def khT : Nat → (Nat → Int32) → (Nat → Nat → Int32) → SR
  | 0, s, r => (s, r)
  | n + 1, s, r => if 743 ≤ s 1 then (s, r) else khT n (phX s r).1 (phX s r).2
def kH0 (s : Nat → Int32) (r : Nat → Nat → Int32) : Prop := cBd s ∧ 0 ≤ (s 1).toInt ∧ (s 1).toInt ≤ 743 ∧ (s 26).toInt ≤ 12 ∧ ∀ j, kq s r j
theorem phX_I {s : Nat → Int32} {r : Nat → Nat → Int32} (h : kH s r) : kH0 (phX s r).1 (phX s r).2 ∧ (s 14).toInt ≤ ((phX s r).1 14).toInt := by
  have hz := h.1
  have h1 := s1H_1 h.2.1 h.2.2.1
  have a0 := h.2.1
  have a1 := h.2.2.1
  have hq : ∀ j, kq (s1H s) (phB s r) j := pbR_q (phA_q h.2.2.2.2) _
  unfold phX
  by_cases c : s1H s 1 - s1H s 1 / 24 * 24 = 12
  · rw [if_pos c]
    have w := pcW_i (s := s1H s) (r := phB s r) hz.2.1.1 hz.2.1.2 (s 6).toNatClampNeg
    generalize pcW (s1H s) (phB s r) (s 6).toNatClampNeg = z at w ⊢
    have e1 : z.1 1 = s1H s 1 := w.1 1 (by decide) (by decide)
    refine ⟨⟨cBd_of hz (w.1 6 (by decide) (by decide)) (Int.le_trans hz.2.1.1 w.2.1) w.2.2.1 (w.1 26 (by decide) (by decide)) (w.1 39 (by decide) (by decide)), ?_, ?_, ?_, fun j => ?_⟩, w.2.1⟩
    · rw [e1]; omega
    · rw [e1]; omega
    · rw [w.1 26 (by decide) (by decide)]; exact h.2.2.2.1
    · exact kq_eq (hq j) (w.1 39 (by decide) (by decide)) (w.2.2.2 34 (by omega)) (w.2.2.2 37 (by omega))
  · rw [if_neg c]
    refine ⟨⟨hz, ?_, ?_, h.2.2.2.1, hq⟩, Int.le_refl _⟩
    · show 0 ≤ (s1H s 1).toInt
      omega
    · show (s1H s 1).toInt ≤ 743
      omega

set_option maxHeartbeats 1600000 in
set_option maxRecDepth 100000 in
theorem c_X9_hours_bad {l : Launch} {D : va_G} {cI cZ cB cO cR cJ : ClassId} {Hb : Heap} {K : kTx} {lv : Nat → Prop} {ad : Nat → Nat} {ce0 : Nat → va_E} (hst : l.stackTraces = false) (s : Nat → Int32) (r : Nat → Nat → Int32) (hlv : kL lv s) (a : Int32) (hne : ¬ xHs a = none) : xMet l D cI cZ cB cO cR cJ Hb K lv ad ce0 yX9_hours wsX9_hours 9 225 1 [.ref (ad 100), .int a] s r (xHs a) (some (.int (0))) s r s r := by
  refine vx_ofW (cc := cX9_hours) (maxL := 3) (ret := (some .int)) (by decide) rfl ?_
  intro p0 e0 s0 m0 args below meth c0 s₁ B hml hout hv
  obtain ⟨rfl, hG, hK, hE⟩ := hv
  have hx := B.exec
  have hb := B.bytes
  have hr := B.returns
  have hts := atoms_spec (ws := wsX9_hours) B.pre
  have hown : s0.vm.findClass RX9 = some m0.cls := findClass_of_methodNamed B.named
  have hlocks := B.notSynchronized
  have S : kX p0 m0 c0 cX9_hours 3 s0 _ wsX9_hours RX9 D (tyL cI cZ cB cO cR cJ) Hb K := ⟨⟨hx, hb, hml, hown, hts⟩, hK, hE⟩
  have hL : gL Hb [] := gL.nil
  have hH := hG.2.2.2.2
  have hl := lv_entry ([.ref (ad 100), .int a]) (n := 3) (Nat.le_of_ble_eq_true rfl)
  rw [lg_entry_eq]
  generalize (lg_sl ([.ref (ad 100), .int a]) ++ List.replicate (3 - (lg_sl ([.ref (ad 100), .int a])).length) Slot.unset).toArray = ls at hl ⊢
  have hl : lv_has ls 3 [(0, .ref (ad 100)), (1, .int a)] := hl
  refine lv_iload_n hx hb dX9_hours_0 rfl (lv_at hl 1 rfl) ?_
  refine lv_iconst (v := 0) hx hb dX9_hours_1 (by decide) ?_
  refine lv_bipush (v := 100) hx hb dX9_hours_2 (by decide) ?_
  refine m_callP (n := 3) (As := [.int a, .int 0, .int 100]) (rest := []) (st1 := .int (fIn a 0 100) :: []) S.1 (c_X9_isWithin a 0 100) gX9_hours_X9_isWithin rfl (by decide +kernel) ⟨Nat.le_of_ble_eq_true rfl, Nat.le_of_ble_eq_true rfl⟩ rfl hl.1 rfl (Nat.le_of_ble_eq_true rfl) dX9_hours_4 ⟨Nat.le_of_ble_eq_true rfl, Nat.le_of_ble_eq_true rfl⟩ (rfl) ?_
  refine lv_if_ne (tgt := 20) hx hb dX9_hours_7 (by decide) (fun c7 => absurd c7 (fun z9 => hne (by simp only [xHs, eq_false z9, if_false]))) (fun c7 => ?_)
  exact k_throw (cls := "java/lang/IllegalArgumentException") (text := "no such number of hours") (i := 10) S hst hH hG hL (by decide +kernel) (hts (.classLink RX9 108 "java/lang/IllegalArgumentException") (by decide +kernel)) (hts (.initialized "java/lang/IllegalArgumentException") (by decide +kernel)) rfl (fun w h => List.mem_cons_of_mem _ (List.mem_append_left _ (List.mem_append_right _ h))) (by decide +kernel) (by decide +kernel) (by decide +kernel) hl.1 dX9_hours_10 dX9_hours_13 dX9_hours_14 dX9_hours_16 dX9_hours_19 hout (Nat.le_of_ble_eq_true rfl) (Nat.le_of_ble_eq_true rfl) (Nat.le_of_ble_eq_true rfl) (Nat.le_of_ble_eq_true rfl) hlocks (by simp only [xHs, eq_true c7, if_true, if_false]) (congr (congrArg (kJ ce0 ad K.2.2.1 cI cB cO cR) (by rfl)) (by rfl)) (Nat.le_of_ble_eq_true rfl) (Nat.le_of_ble_eq_true rfl)

set_option maxHeartbeats 1600000 in
set_option maxRecDepth 100000 in
theorem c_X9_hours_ok {l : Launch} {D : va_G} {cI cZ cB cO cR cJ : ClassId} {Hb : Heap} {K : kTx} {l0 : Nat → Prop} {ad : Nat → Nat} {ce0 : Nat → va_E} (s : Nat → Int32) (r : Nat → Nat → Int32) (a : Int32) (hok : ¬ fIn a 0 100 = 0) (hI : kH0 s r) : Met l yX9_hours wsX9_hours { frames := 9, cells := 120, slots := 5040, locals := 225 } (va_Pc [.ref (ad 100), .int a] (kP D (tyL cI cZ cB cO cR cJ) Hb K (lvC l0 s) ad (kJ ce0 ad K.2.2.1 cI cB cO cR s r))) (mQ D Hb l0 ad (lvA l0) (some (.int ((khT (a).toNatClampNeg s r).1 1))) ce0 K.2.2.1 cI cB cO cR ((khT (a).toNatClampNeg s r).1) ((khT (a).toNatClampNeg s r).2)) 120 5040 (gA Hb) := by
  refine Met.ofW (cc := cX9_hours) (maxL := 3) (ret := (some .int)) (by decide) rfl ?_
  intro p0 e0 s0 m0 args below meth c0 s₁ B hml hv
  obtain ⟨rfl, hG, hK, hE⟩ := hv
  have hx := B.exec
  have hb := B.bytes
  have hr := B.returns
  have hts := atoms_spec (ws := wsX9_hours) B.pre
  have hown : s0.vm.findClass RX9 = some m0.cls := findClass_of_methodNamed B.named
  have hlocks := B.notSynchronized
  have S : kX p0 m0 c0 cX9_hours 3 s0 _ wsX9_hours RX9 D (tyL cI cZ cB cO cR cJ) Hb K := ⟨⟨hx, hb, hml, hown, hts⟩, hK, hE⟩
  have hL : gL Hb [] := gL.nil
  have hH := hG.2.2.2.2
  have hl := lv_entry ([.ref (ad 100), .int a]) (n := 3) (Nat.le_of_ble_eq_true rfl)
  rw [lg_entry_eq]
  generalize (lg_sl ([.ref (ad 100), .int a]) ++ List.replicate (3 - (lg_sl ([.ref (ad 100), .int a])).length) Slot.unset).toArray = ls at hl ⊢
  have hl : lv_has ls 3 [(0, .ref (ad 100)), (1, .int a)] := hl
  have hlv : kL (lvC l0 s) s := lvC_L
  have ha0 : 0 ≤ a.toInt := (fIn_b hok).1
  have ha1 : a.toInt ≤ (100 : Nat) := (fIn_b hok).2
  refine lv_iload_n hx hb dX9_hours_0 rfl (lv_at hl 1 rfl) ?_
  refine lv_iconst (v := 0) hx hb dX9_hours_1 (by decide) ?_
  refine lv_bipush (v := 100) hx hb dX9_hours_2 (by decide) ?_
  refine m_callP (n := 3) (As := [.int a, .int 0, .int 100]) (rest := []) (st1 := .int (fIn a 0 100) :: []) S.1 (c_X9_isWithin a 0 100) gX9_hours_X9_isWithin rfl (by decide +kernel) ⟨Nat.le_of_ble_eq_true rfl, Nat.le_of_ble_eq_true rfl⟩ rfl hl.1 rfl (Nat.le_of_ble_eq_true rfl) dX9_hours_4 ⟨Nat.le_of_ble_eq_true rfl, Nat.le_of_ble_eq_true rfl⟩ (rfl) ?_
  refine lv_if_ne (tgt := 20) hx hb dX9_hours_7 (by decide) (fun c7 => ?_) (fun c7 => absurd c7 (hok))
  refine lv_iconst (v := 0) hx hb dX9_hours_20 (by decide) ?_
  refine lv_istore_n (lv' := [(2, .int 0), (0, .ref (ad 100)), (1, .int a)]) hx hb dX9_hours_21 rfl hl (by decide) rfl (fun ls hl => ?_)
  have LP : ∀ (m : Nat) (adv : Nat → Nat) (hadv : ∀ j, lvA l0 j → adv j = ad j) (i : Nat) (x : Int32) (sv : Nat → Int32) (rv : Nat → Nat → Int32) (ex : x = nI i) (hi : i ≤ a.toNatClampNeg) (hn : a.toNatClampNeg + 1 ≤ i + m) (hI2 : kH0 sv rv) (hm : (s 14).toInt ≤ (sv 14).toInt) (hF : khT (a.toNatClampNeg - i) sv rv = khT a.toNatClampNeg s r), ∀ (H : Heap) (locs : List Loc), gW D Hb (lvC l0 sv) adv (kJ ce0 adv K.2.2.1 cI cB cO cR sv rv) H → gL Hb locs → ∀ (ls : Array Slot), lv_has ls 3 [(0, .ref (adv 100)), (1, .int a), (2, .int x)] → W p0 l e0 (headSpec wsX9_hours { frames := 9, cells := 120, slots := 5040, locals := 225 }).room s0 m0 ([.ref (ad 100), .int a] : List Value).toArray below meth c0 H locs (2 * ((sv 14).toNatClampNeg - (s 14).toNatClampNeg)) (84 * ((sv 14).toNatClampNeg - (s 14).toNatClampNeg)) (MQ below (mQ D Hb l0 ad (lvA l0) (some (.int ((khT (a).toNatClampNeg s r).1 1))) ce0 K.2.2.1 cI cB cO cR ((khT (a).toNatClampNeg s r).1) ((khT (a).toNatClampNeg s r).2)) ([.ref (ad 100), .int a] : List Value).toArray s0 120 5040 (gA Hb)) (F0 m0 22 ls []) := by
    intro m
    induction m with
    | zero => intro adv hadv i x sv rv ex hi hn hI2 hm hF; exact absurd hn (by omega)
    | succ m ih =>
      intro adv hadv i x sv rv ex hi hn hI2 hm hF H locs hG hL ls hl
      have hlv : kL (lvC l0 sv) sv := lvC_L; have hbd : a.toNatClampNeg ≤ 100 := t_ixl ha0 ha1; have hz := hI2.1; have hsv60 := hz.n.2.1; have hmn : (s 14).toNatClampNeg ≤ (sv 14).toNatClampNeg := ix_mono hI.1.2.1.1 hm
      refine lv_iload_n hx hb dX9_hours_22 rfl (lv_at hl 2 rfl) ?_
      refine lv_iload_n hx hb dX9_hours_23 rfl (lv_at hl 1 rfl) ?_
      refine lv_icmp_ge (tgt := 47) hx hb dX9_hours_24 (by decide) (fun c24 => ?_) (fun c24 => ?_)
      ·
        have hEq := cl_ge ha0 hi (ex ▸ c24); have hZ : khT a.toNatClampNeg s r = (sv, rv) := (by { rw [← hF, show a.toNatClampNeg - i = 0 by omega]; rfl })
        refine lv_aload_n hx hb dX9_hours_47 rfl (lv_at hl 0 rfl) ?_
        refine k_gi (C := RX9) (T := TX9) (N := 14) (ci := 10) (v := sv 1) S hG (fun w h => List.mem_cons_of_mem _ (List.mem_append_left _ (List.mem_append_left _ (List.mem_append_left _ (List.mem_append_left _ (List.mem_append_left _ (List.mem_append_left _ (List.mem_append_left _ (List.mem_append_left _ (List.mem_append_right _ h)))))))))) 100 (hlv.f (by decide) (by decide)) rfl rfl 12 (by decide) rfl (hts (.fieldLink RX9 71 "SwarmLine" "now" "I") (by decide +kernel)) rfl (rfl) dX9_hours_48 ?_
        exact mk_iret S.1 hr hlocks (hadv) hG hL (congrArg (fun z => some (Value.int z)) (by rw [hZ])) (by rw [hZ]) (by rw [hZ]) dX9_hours_51 (by show _ ≤ 120; omega) (by show _ ≤ 5040; omega)
      ·
        have hlt := cl_lt ha0 hi (ex ▸ c24)
        refine lv_aload_n hx hb dX9_hours_27 rfl (lv_at hl 0 rfl) ?_
        refine k_gi (C := RX9) (T := TX9) (N := 14) (ci := 10) (v := sv 1) S hG (fun w h => List.mem_cons_of_mem _ (List.mem_append_left _ (List.mem_append_left _ (List.mem_append_left _ (List.mem_append_left _ (List.mem_append_left _ (List.mem_append_left _ (List.mem_append_left _ (List.mem_append_left _ (List.mem_append_right _ h)))))))))) 100 (hlv.f (by decide) (by decide)) rfl rfl 12 (by decide) rfl (hts (.fieldLink RX9 71 "SwarmLine" "now" "I") (by decide +kernel)) rfl (rfl) dX9_hours_28 ?_
        refine lv_sipush (v := 743) hx hb dX9_hours_31 (by decide) ?_
        refine lv_icmp_ge (tgt := 47) hx hb dX9_hours_34 (by decide) (fun c34 => ?_) (fun c34 => ?_)
        ·
          have hZ : khT a.toNatClampNeg s r = (sv, rv) := (by { rw [← hF, show a.toNatClampNeg - i = (a.toNatClampNeg - (i + 1)) + 1 by omega]; simp only [khT, eq_true c34, if_true] })
          refine lv_aload_n hx hb dX9_hours_47 rfl (lv_at hl 0 rfl) ?_
          refine k_gi (C := RX9) (T := TX9) (N := 14) (ci := 10) (v := sv 1) S hG (fun w h => List.mem_cons_of_mem _ (List.mem_append_left _ (List.mem_append_left _ (List.mem_append_left _ (List.mem_append_left _ (List.mem_append_left _ (List.mem_append_left _ (List.mem_append_left _ (List.mem_append_left _ (List.mem_append_right _ h)))))))))) 100 (hlv.f (by decide) (by decide)) rfl rfl 12 (by decide) rfl (hts (.fieldLink RX9 71 "SwarmLine" "now" "I") (by decide +kernel)) rfl (rfl) dX9_hours_48 ?_
          exact mk_iret S.1 hr hlocks (hadv) hG hL (congrArg (fun z => some (Value.int z)) (by rw [hZ])) (by rw [hZ]) (by rw [hZ]) dX9_hours_51 (by show _ ≤ 120; omega) (by show _ ≤ 5040; omega)
        ·
          have hkH : kH sv rv := ⟨hz, hI2.2.1, (by { have q := c34; rw [t_le] at q; have z : (743 : Int32).toInt = 743 := rfl; omega }), hI2.2.2.2.1, hI2.2.2.2.2⟩; have hP := phX_I hkH; have hp1 : (sv 14).toNatClampNeg ≤ ((phX sv rv).1 14).toNatClampNeg := ix_mono hz.2.1.1 hP.2; have hp2 := hP.1.1.n.2.1
          refine lv_aload_n hx hb dX9_hours_37 rfl (lv_at hl 0 rfl) ?_
          refine m_callM (n := 0) (As := []) (rest := []) (k := 100) (ci := 10) S hG hL (hlv.f (by decide) (by decide)) rfl rfl (c_X9_passHour sv rv  (hkH)) gX9_hours_X9_passHour rfl ⟨rfl, rfl⟩ (by decide +kernel) ⟨Nat.le_of_ble_eq_true rfl, Nat.le_of_ble_eq_true rfl⟩ rfl hl.1 rfl (Nat.le_of_ble_eq_true rfl) dX9_hours_38 (⟨by { show 2 * ((sv 14).toNatClampNeg - (s 14).toNatClampNeg) + 2 * (((phX sv rv).1 14).toNatClampNeg - (sv 14).toNatClampNeg) ≤ 120; omega }, by { show 84 * ((sv 14).toNatClampNeg - (s 14).toNatClampNeg) + 84 * (((phX sv rv).1 14).toNatClampNeg - (sv 14).toNatClampNeg) ≤ 5040; omega }⟩) (fun ad1 H locs had1 hG hL => ?_)
          have hlv : kL (lvC l0 ((phX sv rv).1)) ((phX sv rv).1) := lvC_L
          have hl : lv_has ls 3 [(0, .ref (ad1 100)), (1, .int a), (2, .int x)] := by { rw [had1 100 lvA_100]; exact hl }
          refine lv_iinc (v := x + 1) (lv' := [(2, .int (x + 1)), (0, .ref (ad1 100)), (1, .int a)]) hx hb dX9_hours_41 hl (k := 2) rfl (by rfl) (by decide) rfl (fun ls hl => ?_)
          refine lv_goto (tgt := 22) hx hb dX9_hours_44 (by decide) ?_
          refine W.widen (k := 2 * ((((phX sv rv).1) 14).toNatClampNeg - (s 14).toNatClampNeg)) (n := 84 * ((((phX sv rv).1) 14).toNatClampNeg - (s 14).toNatClampNeg)) (by omega) (by omega) ?_
          exact ih  ad1 (fun j hj => (had1 j hj).trans ((hadv) j hj)) (i + 1) (x + 1) ((phX sv rv).1) ((phX sv rv).2) (by rw [ex]; exact nI_1 i) (hlt) (by omega) (hP.1) (Int.le_trans hm hP.2) (by rw [← hF, show a.toNatClampNeg - i = (a.toNatClampNeg - (i + 1)) + 1 by omega]; simp only [khT, eq_false c34, if_false]) _ _ hG hL _ (lv_sub hl [1, 2, 0] rfl)
  refine W.widen (k := 2 * ((s 14).toNatClampNeg - (s 14).toNatClampNeg)) (n := 84 * ((s 14).toNatClampNeg - (s 14).toNatClampNeg)) (Nat.zero_le _) (Nat.zero_le _) ?_
  exact LP (a.toNatClampNeg + 1) ad (fun _ _ => rfl) 0 0 s r (rfl) (Nat.zero_le _) (by omega) (hI) (Int.le_refl _) (rfl) _ _ hG hL _ (lv_sub hl [1, 2, 0] rfl)
