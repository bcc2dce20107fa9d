set_option maxHeartbeats 400000 in
set_option maxRecDepth 100000 in
theorem c_X0_told {l : Launch} {D : va_G} {cI cZ cB cO cR cJ : ClassId} {Hb : Heap} {K : kTx} {lv : Nat → Prop} {ad : Nat → Nat} {ce0 : Nat → va_E} (s : Nat → Int32) (r : Nat → Nat → Int32) (hlv : kL lv s) (i : Int32) (w : Int32) (h1 : (s 57).toInt ≤ 12) : kMet l D cI cZ cB cO cR cJ Hb K lv ad ce0 yX0_told wsX0_told 0 0 [.ref (ad 104), .int i, .int w] s r (some (.int (vAs i w s r))) s r := by
  refine Met.ofW (cc := cX0_told) (maxL := 3) (ret := (some .int)) (by decide) rfl ?_
  intro p0 e0 s0 m0 args below meth c0 s₁ B hml hv
  obtain ⟨rfl, hG, hK, hE⟩ := hv
  have hx := B.exec
  have hb := B.bytes
  have hr := B.returns
  have hts := atoms_spec (ws := wsX0_told) B.pre
  have hown : s0.vm.findClass RX0 = some m0.cls := findClass_of_methodNamed B.named
  have hlocks := B.notSynchronized
  have S : kX p0 m0 c0 cX0_told 3 s0 _ wsX0_told RX0 D (tyL cI cZ cB cO cR cJ) Hb K := ⟨⟨hx, hb, hml, hown, hts⟩, hK, hE⟩
  have hL : gL Hb [] := gL.nil
  have hH := hG.2.2.2.2
  have hl := lv_entry ([.ref (ad 104), .int i, .int w]) (n := 3) (Nat.le_of_ble_eq_true rfl)
  rw [lg_entry_eq]
  generalize (lg_sl ([.ref (ad 104), .int i, .int w]) ++ List.replicate (3 - (lg_sl ([.ref (ad 104), .int i, .int w])).length) Slot.unset).toArray = ls at hl ⊢
  have hl : lv_has ls 3 [(0, .ref (ad 104)), (1, .int i), (2, .int w)] := hl
  refine lv_iload_n hx hb dX0_told_0 rfl (lv_at hl 1 rfl) ?_
  refine lv_if_lt (tgt := 12) hx hb dX0_told_1 (by decide) (fun c1 => ?_) (fun c1 => ?_)
  ·
    refine lv_iconst (v := (-1)) hx hb dX0_told_12 (by decide) ?_
    exact g_iret S.1 hr hlocks hG hL (congrArg (fun z => some (Value.int z)) (by simp only [vAs, eq_true c1, if_true, if_false])) (congr (congrArg (kJ ce0 ad K.2.2.1 cI cB cO cR) (by rfl)) (by rfl)) dX0_told_13
  ·
    refine lv_iload_n hx hb dX0_told_4 rfl (lv_at hl 1 rfl) ?_
    refine lv_aload_n hx hb dX0_told_5 rfl (lv_at hl 0 rfl) ?_
    refine k_gi (C := RX0) (T := TX0) (N := 3) (ci := 1) (v := s 57) S hG (fun w h => List.mem_cons_of_mem _ (List.mem_append_right _ h)) 104 (hlv.f (by decide) (by decide)) rfl rfl 2 (by decide) rfl (hts (.fieldLink RX0 18 "SwarmLine$Asked" "many" "I") (by decide +kernel)) rfl (rfl) dX0_told_6 ?_
    refine lv_icmp_lt (tgt := 14) hx hb dX0_told_9 (by decide) (fun c9 => ?_) (fun c9 => ?_)
    ·
      refine lv_iload_n hx hb dX0_told_14 rfl (lv_at hl 2 rfl) ?_
      by_cases cl0 : w = 0
      ·
        refine lv_lookup (off := 25) (tgt := 40) hx hb dX0_told_15 (by decide) (by rw [cl0]; rfl) (by decide) ?_
        refine lv_aload_n hx hb dX0_told_40 rfl (lv_at hl 0 rfl) ?_
        refine k_ga (C := RX0) (T := TX0) (N := 3) (ci := 1) (v := .ref (ad 117)) S hG (fun w h => List.mem_cons_of_mem _ (List.mem_append_right _ h)) 104 (hlv.f (by decide) (by decide)) rfl rfl 0 (by decide) rfl (hts (.fieldLink RX0 9 "SwarmLine$Asked" "numbers" "[I") (by decide +kernel)) rfl dX0_told_41 ?_
        refine lv_iload_n hx hb dX0_told_44 rfl (lv_at hl 1 rfl) ?_
        refine k_ild (j := Int32.toNatClampNeg i) (v := r 58 (Int32.toNatClampNeg i)) S hG 117 (hlv.f (by decide) (by decide)) rfl rfl (show vp_in i 12 from vp_in_t (by have q := c1; rw [t_lt, t_0] at q; omega) (by have q := c9; rw [t_lt] at q; omega)) (rfl) dX0_told_45 ?_
        exact g_iret S.1 hr hlocks hG hL (congrArg (fun z => some (Value.int z)) (by simp only [vAs, eq_false c1, eq_true c9, eq_true cl0, if_true, if_false])) (congr (congrArg (kJ ce0 ad K.2.2.1 cI cB cO cR) (by rfl)) (by rfl)) dX0_told_46
      ·
        by_cases cl1 : w = 1
        ·
          refine lv_lookup (off := 32) (tgt := 47) hx hb dX0_told_15 (by decide) (by rw [cl1]; rfl) (by decide) ?_
          refine lv_aload_n hx hb dX0_told_47 rfl (lv_at hl 0 rfl) ?_
          refine k_ga (C := RX0) (T := TX0) (N := 3) (ci := 1) (v := .ref (ad 118)) S hG (fun w h => List.mem_cons_of_mem _ (List.mem_append_right _ h)) 104 (hlv.f (by decide) (by decide)) rfl rfl 1 (by decide) rfl (hts (.fieldLink RX0 15 "SwarmLine$Asked" "against" "[I") (by decide +kernel)) rfl dX0_told_48 ?_
          refine lv_iload_n hx hb dX0_told_51 rfl (lv_at hl 1 rfl) ?_
          refine k_ild (j := Int32.toNatClampNeg i) (v := r 59 (Int32.toNatClampNeg i)) S hG 118 (hlv.f (by decide) (by decide)) rfl rfl (show vp_in i 12 from vp_in_t (by have q := c1; rw [t_lt, t_0] at q; omega) (by have q := c9; rw [t_lt] at q; omega)) (rfl) dX0_told_52 ?_
          exact g_iret S.1 hr hlocks hG hL (congrArg (fun z => some (Value.int z)) (by simp only [vAs, eq_false c1, eq_true c9, eq_true cl1, eq_false cl0, if_true, if_false])) (congr (congrArg (kJ ce0 ad K.2.2.1 cI cB cO cR) (by rfl)) (by rfl)) dX0_told_53
        ·
          have al0 : ¬ w.toInt = 0 := fun z => cl0 (by rw [t_eq]; exact z)
          have bl0 : ¬ (0 : Int) = w.toInt := fun z => al0 z.symm
          have al1 : ¬ w.toInt = 1 := fun z => cl1 (by rw [t_eq]; exact z)
          have bl1 : ¬ (1 : Int) = w.toInt := fun z => al1 z.symm
          refine lv_lookup (off := 39) (tgt := 54) hx hb dX0_told_15 (by decide) (by simp [Op.lookupswitch.offset, al0, bl0, al1, bl1]) (by decide) ?_
          refine lv_iconst (v := (-1)) hx hb dX0_told_54 (by decide) ?_
          exact g_iret S.1 hr hlocks hG hL (congrArg (fun z => some (Value.int z)) (by simp only [vAs, eq_false c1, eq_true c9, eq_false cl0, eq_false cl1, if_true, if_false])) (congr (congrArg (kJ ce0 ad K.2.2.1 cI cB cO cR) (by rfl)) (by rfl)) dX0_told_55
    ·
      refine lv_iconst (v := (-1)) hx hb dX0_told_12 (by decide) ?_
      exact g_iret S.1 hr hlocks hG hL (congrArg (fun z => some (Value.int z)) (by simp only [vAs, eq_false c1, eq_false c9, if_true, if_false])) (congr (congrArg (kJ ce0 ad K.2.2.1 cI cB cO cR) (by rfl)) (by rfl)) dX0_told_13

set_option maxHeartbeats 400000 in
set_option maxRecDepth 100000 in
theorem c_X9_asked {l : Launch} {D : va_G} {cI cZ cB cO cR cJ : ClassId} {Hb : Heap} {K : kTx} {lv : Nat → Prop} {ad : Nat → Nat} {ce0 : Nat → va_E} (s : Nat → Int32) (r : Nat → Nat → Int32) (hlv : kL lv s) (i : Int32) (w : Int32) (h1 : (s 57).toInt ≤ 12) : kMet l D cI cZ cB cO cR cJ Hb K lv ad ce0 yX9_asked wsX9_asked 1 22 [.ref (ad 100), .int i, .int w] s r (some (.int (vAs i w s r))) s r := by
  refine Met.ofW (cc := cX9_asked) (maxL := 3) (ret := (some .int)) (by decide) rfl ?_
  intro p0 e0 s0 m0 args below meth c0 s₁ B hml hv
  obtain ⟨rfl, hG, hK, hE⟩ := hv
  have hx := B.exec
  have hb := B.bytes
  have hr := B.returns
  have hts := atoms_spec (ws := wsX9_asked) B.pre
  have hown : s0.vm.findClass RX9 = some m0.cls := findClass_of_methodNamed B.named
  have hlocks := B.notSynchronized
  have S : kX p0 m0 c0 cX9_asked 3 s0 _ wsX9_asked RX9 D (tyL cI cZ cB cO cR cJ) Hb K := ⟨⟨hx, hb, hml, hown, hts⟩, hK, hE⟩
  have hL : gL Hb [] := gL.nil
  have hH := hG.2.2.2.2
  have hl := lv_entry ([.ref (ad 100), .int i, .int w]) (n := 3) (Nat.le_of_ble_eq_true rfl)
  rw [lg_entry_eq]
  generalize (lg_sl ([.ref (ad 100), .int i, .int w]) ++ List.replicate (3 - (lg_sl ([.ref (ad 100), .int i, .int w])).length) Slot.unset).toArray = ls at hl ⊢
  have hl : lv_has ls 3 [(0, .ref (ad 100)), (1, .int i), (2, .int w)] := hl
  refine lv_aload_n hx hb dX9_asked_0 rfl (lv_at hl 0 rfl) ?_
  refine k_ga (C := RX9) (T := TX9) (N := 14) (ci := 10) (v := .ref (ad 104)) S hG (fun w h => List.mem_cons_of_mem _ (List.mem_append_left _ (List.mem_append_right _ h))) 100 (hlv.f (by decide) (by decide)) rfl rfl 3 (by decide) rfl (hts (.fieldLink RX9 33 "SwarmLine" "askedLast" "LSwarmLine$Asked;") (by decide +kernel)) rfl dX9_asked_1 ?_
  refine lv_iload_n hx hb dX9_asked_4 rfl (lv_at hl 1 rfl) ?_
  refine lv_iload_n hx hb dX9_asked_5 rfl (lv_at hl 2 rfl) ?_
  refine k_callV (n := 2) (As := [.int i, .int w]) (rest := []) (st1 := .int (vAs i w s r) :: []) (k := 104) (ci := 1) S hG hL (hlv.f (by decide) (by decide)) rfl rfl (c_X0_told s r hlv  i w (h1)) gX9_asked_X0_told rfl ⟨rfl, rfl⟩ (by decide +kernel) ⟨Nat.le_of_ble_eq_true rfl, Nat.le_of_ble_eq_true rfl⟩ rfl hl.1 rfl (Nat.le_of_ble_eq_true rfl) dX9_asked_6 ⟨Nat.zero_le _, Nat.zero_le _⟩ (rfl) (fun H locs hG hL => ?_)
  exact g_iret S.1 hr hlocks hG hL (congrArg (fun z => some (Value.int z)) (by rfl)) (congr (congrArg (kJ ce0 ad K.2.2.1 cI cB cO cR) (by rfl)) (by rfl)) dX9_asked_9
