set_option maxHeartbeats 800000 in
set_option maxRecDepth 100000 in
theorem c_X3_init {l : Launch} {D : va_G} {cI cZ cB cO cR cJ : ClassId} {Hb : Heap} {K : kTx} {lv : Nat → Prop} {ad : Nat → Nat} {ce0 : Nat → va_E} (s : Nat → Int32) (r : Nat → Nat → Int32) (hlv : kL lv s) (i : Nat) (hi : lv (1000 + i)) (hi9 : i < 1000) (x : Int32) (y : Int32) (b : Int32) (ro : Int32) (mk : Int32)  : kMet l D cI cZ cB cO cR cJ Hb K lv ad ce0 yX3_init wsX3_init 1 12 [.ref (ad (1000 + i)), .int x, .int y, .int b, .int ro, .int mk] s r none s (up2 (up2 (up2 (up2 (up2 (up2 (up2 r 12 i 0) 13 i (-1)) 7 i x) 8 i y) 9 i b) 10 i ro) 11 i mk) := by
  refine Met.ofW (cc := cX3_init) (maxL := 6) (ret := none) (by decide) rfl ?_
  intro p0 e0 s0 m0 args below meth c0 s₁ B hml hv
  obtain ⟨rfl, hG, hK, hE⟩ := hv
  have hx := B.exec
  have hb := B.bytes
  have hr := B.returns
  have hts := atoms_spec (ws := wsX3_init) B.pre
  have hown : s0.vm.findClass RX3 = some m0.cls := findClass_of_methodNamed B.named
  have hlocks := B.notSynchronized
  have S : kX p0 m0 c0 cX3_init 6 s0 _ wsX3_init RX3 D (tyL cI cZ cB cO cR cJ) Hb K := ⟨⟨hx, hb, hml, hown, hts⟩, hK, hE⟩
  have hL : gL Hb [] := gL.nil
  have hH := hG.2.2.2.2
  have hl := lv_entry ([.ref (ad (1000 + i)), .int x, .int y, .int b, .int ro, .int mk]) (n := 6) (Nat.le_of_ble_eq_true rfl)
  rw [lg_entry_eq]
  generalize (lg_sl ([.ref (ad (1000 + i)), .int x, .int y, .int b, .int ro, .int mk]) ++ List.replicate (6 - (lg_sl ([.ref (ad (1000 + i)), .int x, .int y, .int b, .int ro, .int mk])).length) Slot.unset).toArray = ls at hl ⊢
  have hl : lv_has ls 6 [(0, .ref (ad (1000 + i))), (1, .int x), (2, .int y), (3, .int b), (4, .int ro), (5, .int mk)] := hl
  have hin2 : meth.name = "<init>" := (name_of_methodNamed B.named B.method).1
  refine lv_aload_n hx hb dX3_init_0 rfl (lv_at hl 0 rfl) ?_
  refine W.objInit hx hb hown (hts (.methodLink RX3 3 objectInit) (by decide +kernel)) (hts (.instanceMethod objectInit) (by decide +kernel)) (hts (.code objectInit ⟨#[0xb1]⟩ 1 none) (by decide +kernel)) rfl (by rw [hml]; exact hl.1) rfl dX3_init_1 (Nat.le_of_ble_eq_true rfl) (Nat.le_of_ble_eq_true rfl) ?_
  refine W.eq (g2 := F0 m0 4 ls []) rfl ?_
  refine lv_aload_n hx hb dX3_init_4 rfl (lv_at hl 0 rfl) ?_
  refine lv_iconst (v := 0) hx hb dX3_init_5 (by decide) ?_
  refine k_pi (C := RX3) (T := TX3) (N := 7) (ci := 4) (ty := .int) S hG hL (fun w h => List.mem_cons_of_mem _ (List.mem_append_right _ h)) tyX3 tyX3_ok nmX3 (1000 + i) (hi) (kJ_hv hi9) rfl 5 (by decide) rfl (hts (.fieldLink RX3 9 "SwarmLine$Hive" "warm" "I") (by decide +kernel)) rfl (by decide +kernel) rfl rfl (Nat.le_of_ble_eq_true rfl) (kw_hv_warm hi9 _) dX3_init_6 (fun H locs hG hL => ?_)
  refine lv_aload_n hx hb dX3_init_9 rfl (lv_at hl 0 rfl) ?_
  refine lv_iconst (v := (-1)) hx hb dX3_init_10 (by decide) ?_
  refine k_pi (C := RX3) (T := TX3) (N := 7) (ci := 4) (ty := .int) S hG hL (fun w h => List.mem_cons_of_mem _ (List.mem_append_right _ h)) tyX3 tyX3_ok nmX3 (1000 + i) (hi) (kJ_hv hi9) rfl 6 (by decide) rfl (hts (.fieldLink RX3 15 "SwarmLine$Hive" "swarmedLast" "I") (by decide +kernel)) rfl (by decide +kernel) rfl rfl (Nat.le_of_ble_eq_true rfl) (kw_hv_swarmedLast hi9 _) dX3_init_11 (fun H locs hG hL => ?_)
  refine lv_aload_n hx hb dX3_init_14 rfl (lv_at hl 0 rfl) ?_
  refine lv_iload_n hx hb dX3_init_15 rfl (lv_at hl 1 rfl) ?_
  refine k_pF (C := RX3) (T := TX3) (N := 7) (ci := 4) (ty := .int) S hG hL (fun w h => List.mem_cons_of_mem _ (List.mem_append_right _ h)) tyX3 tyX3_ok nmX3 (1000 + i) (hi) (kJ_hv hi9) rfl 0 (by decide) rfl (hts (.fieldLink RX3 18 "SwarmLine$Hive" "x" "I") (by decide +kernel)) rfl hin2 rfl (by decide +kernel) rfl rfl (Nat.le_of_ble_eq_true rfl) (kw_hv_x hi9 _) dX3_init_16 (fun H locs hG hL => ?_)
  refine lv_aload_n hx hb dX3_init_19 rfl (lv_at hl 0 rfl) ?_
  refine lv_iload_n hx hb dX3_init_20 rfl (lv_at hl 2 rfl) ?_
  refine k_pF (C := RX3) (T := TX3) (N := 7) (ci := 4) (ty := .int) S hG hL (fun w h => List.mem_cons_of_mem _ (List.mem_append_right _ h)) tyX3 tyX3_ok nmX3 (1000 + i) (hi) (kJ_hv hi9) rfl 1 (by decide) rfl (hts (.fieldLink RX3 21 "SwarmLine$Hive" "y" "I") (by decide +kernel)) rfl hin2 rfl (by decide +kernel) rfl rfl (Nat.le_of_ble_eq_true rfl) (kw_hv_y hi9 _) dX3_init_21 (fun H locs hG hL => ?_)
  refine lv_aload_n hx hb dX3_init_24 rfl (lv_at hl 0 rfl) ?_
  refine lv_iload_n hx hb dX3_init_25 rfl (lv_at hl 3 rfl) ?_
  refine k_pi (C := RX3) (T := TX3) (N := 7) (ci := 4) (ty := .int) S hG hL (fun w h => List.mem_cons_of_mem _ (List.mem_append_right _ h)) tyX3 tyX3_ok nmX3 (1000 + i) (hi) (kJ_hv hi9) rfl 4 (by decide) rfl (hts (.fieldLink RX3 24 "SwarmLine$Hive" "bees" "I") (by decide +kernel)) rfl (by decide +kernel) rfl rfl (Nat.le_of_ble_eq_true rfl) (kw_hv_bees hi9 _) dX3_init_26 (fun H locs hG hL => ?_)
  refine lv_aload_n hx hb dX3_init_29 rfl (lv_at hl 0 rfl) ?_
  refine lv_iload hx hb dX3_init_30 (lv_at hl 4 rfl) ?_
  refine k_pF (C := RX3) (T := TX3) (N := 7) (ci := 4) (ty := .int) S hG hL (fun w h => List.mem_cons_of_mem _ (List.mem_append_right _ h)) tyX3 tyX3_ok nmX3 (1000 + i) (hi) (kJ_hv hi9) rfl 2 (by decide) rfl (hts (.fieldLink RX3 27 "SwarmLine$Hive" "room" "I") (by decide +kernel)) rfl hin2 rfl (by decide +kernel) rfl rfl (Nat.le_of_ble_eq_true rfl) (kw_hv_room hi9 _) dX3_init_32 (fun H locs hG hL => ?_)
  refine lv_aload_n hx hb dX3_init_35 rfl (lv_at hl 0 rfl) ?_
  refine lv_iload hx hb dX3_init_36 (lv_at hl 5 rfl) ?_
  refine k_pF (C := RX3) (T := TX3) (N := 7) (ci := 4) (ty := .int) S hG hL (fun w h => List.mem_cons_of_mem _ (List.mem_append_right _ h)) tyX3 tyX3_ok nmX3 (1000 + i) (hi) (kJ_hv hi9) rfl 3 (by decide) rfl (hts (.fieldLink RX3 30 "SwarmLine$Hive" "mark" "I") (by decide +kernel)) rfl hin2 rfl (by decide +kernel) rfl rfl (Nat.le_of_ble_eq_true rfl) (kw_hv_mark hi9 _) dX3_init_38 (fun H locs hG hL => ?_)
  exact g_vret S.1 hr hlocks hG hL rfl (congr (congrArg (kJ ce0 ad K.2.2.1 cI cB cO cR) (by rfl)) (by rfl)) dX3_init_41

set_option maxHeartbeats 800000 in
set_option maxRecDepth 100000 in
theorem c_X4_init {l : Launch} {D : va_G} {cI cZ cB cO cR cJ : ClassId} {Hb : Heap} {K : kTx} {lv : Nat → Prop} {ad : Nat → Nat} {ce0 : Nat → va_E} (s : Nat → Int32) (r : Nat → Nat → Int32) (hlv : kL lv s) (i : Nat) (hi : lv (3000 + i)) (hi9 : i < 1000) (x : Int32) (y : Int32) (b : Int32) (la : Int32) (pa : Int32) (fr : Int32) (to : Int32)  : kMet l D cI cZ cB cO cR cJ Hb K lv ad ce0 yX4_init wsX4_init 1 12 [.ref (ad (3000 + i)), .int x, .int y, .int b, .int la, .int pa, .int fr, .int to] s r none s (up2 (up2 (up2 (up2 (up2 (up2 (up2 (up2 (up2 (up2 (up2 (up2 r 34 i 0) 36 i 0) 35 i 0) 37 i (-1)) 38 i 0) 27 i x) 28 i y) 29 i b) 30 i la) 31 i pa) 32 i fr) 33 i to) := by
  refine Met.ofW (cc := cX4_init) (maxL := 8) (ret := none) (by decide) rfl ?_
  intro p0 e0 s0 m0 args below meth c0 s₁ B hml hv
  obtain ⟨rfl, hG, hK, hE⟩ := hv
  have hx := B.exec
  have hb := B.bytes
  have hr := B.returns
  have hts := atoms_spec (ws := wsX4_init) B.pre
  have hown : s0.vm.findClass RX4 = some m0.cls := findClass_of_methodNamed B.named
  have hlocks := B.notSynchronized
  have S : kX p0 m0 c0 cX4_init 8 s0 _ wsX4_init RX4 D (tyL cI cZ cB cO cR cJ) Hb K := ⟨⟨hx, hb, hml, hown, hts⟩, hK, hE⟩
  have hL : gL Hb [] := gL.nil
  have hH := hG.2.2.2.2
  have hl := lv_entry ([.ref (ad (3000 + i)), .int x, .int y, .int b, .int la, .int pa, .int fr, .int to]) (n := 8) (Nat.le_of_ble_eq_true rfl)
  rw [lg_entry_eq]
  generalize (lg_sl ([.ref (ad (3000 + i)), .int x, .int y, .int b, .int la, .int pa, .int fr, .int to]) ++ List.replicate (8 - (lg_sl ([.ref (ad (3000 + i)), .int x, .int y, .int b, .int la, .int pa, .int fr, .int to])).length) Slot.unset).toArray = ls at hl ⊢
  have hl : lv_has ls 8 [(0, .ref (ad (3000 + i))), (1, .int x), (2, .int y), (3, .int b), (4, .int la), (5, .int pa), (6, .int fr), (7, .int to)] := hl
  have hin2 : meth.name = "<init>" := (name_of_methodNamed B.named B.method).1
  refine lv_aload_n hx hb dX4_init_0 rfl (lv_at hl 0 rfl) ?_
  refine W.objInit hx hb hown (hts (.methodLink RX4 3 objectInit) (by decide +kernel)) (hts (.instanceMethod objectInit) (by decide +kernel)) (hts (.code objectInit ⟨#[0xb1]⟩ 1 none) (by decide +kernel)) rfl (by rw [hml]; exact hl.1) rfl dX4_init_1 (Nat.le_of_ble_eq_true rfl) (Nat.le_of_ble_eq_true rfl) ?_
  refine W.eq (g2 := F0 m0 4 ls []) rfl ?_
  refine lv_aload_n hx hb dX4_init_4 rfl (lv_at hl 0 rfl) ?_
  refine lv_iconst (v := 0) hx hb dX4_init_5 (by decide) ?_
  refine k_pi (C := RX4) (T := TX4) (N := 12) (ci := 5) (ty := .int) S hG hL (fun w h => List.mem_cons_of_mem _ (List.mem_append_right _ h)) tyX4 tyX4_ok nmX4 (3000 + i) (hi) (kJ_kp hi9) rfl 7 (by decide) rfl (hts (.fieldLink RX4 9 "SwarmLine$Keeper" "state" "I") (by decide +kernel)) rfl (by decide +kernel) rfl rfl (Nat.le_of_ble_eq_true rfl) (kw_kp_state hi9 _) dX4_init_6 (fun H locs hG hL => ?_)
  refine lv_aload_n hx hb dX4_init_9 rfl (lv_at hl 0 rfl) ?_
  refine lv_iconst (v := 0) hx hb dX4_init_10 (by decide) ?_
  refine k_pi (C := RX4) (T := TX4) (N := 12) (ci := 5) (ty := .int) S hG hL (fun w h => List.mem_cons_of_mem _ (List.mem_append_right _ h)) tyX4 tyX4_ok nmX4 (3000 + i) (hi) (kJ_kp hi9) rfl 8 (by decide) rfl (hts (.fieldLink RX4 15 "SwarmLine$Keeper" "hoursOneWay" "I") (by decide +kernel)) rfl (by decide +kernel) rfl rfl (Nat.le_of_ble_eq_true rfl) (kw_kp_hoursOneWay hi9 _) dX4_init_11 (fun H locs hG hL => ?_)
  refine lv_aload_n hx hb dX4_init_14 rfl (lv_at hl 0 rfl) ?_
  refine lv_iconst (v := 0) hx hb dX4_init_15 (by decide) ?_
  refine k_pi (C := RX4) (T := TX4) (N := 12) (ci := 5) (ty := .int) S hG hL (fun w h => List.mem_cons_of_mem _ (List.mem_append_right _ h)) tyX4 tyX4_ok nmX4 (3000 + i) (hi) (kJ_kp hi9) rfl 9 (by decide) rfl (hts (.fieldLink RX4 18 "SwarmLine$Keeper" "hoursToGo" "I") (by decide +kernel)) rfl (by decide +kernel) rfl rfl (Nat.le_of_ble_eq_true rfl) (kw_kp_hoursToGo hi9 _) dX4_init_16 (fun H locs hG hL => ?_)
  refine lv_aload_n hx hb dX4_init_19 rfl (lv_at hl 0 rfl) ?_
  refine lv_iconst (v := (-1)) hx hb dX4_init_20 (by decide) ?_
  refine k_pi (C := RX4) (T := TX4) (N := 12) (ci := 5) (ty := .int) S hG hL (fun w h => List.mem_cons_of_mem _ (List.mem_append_right _ h)) tyX4 tyX4_ok nmX4 (3000 + i) (hi) (kJ_kp hi9) rfl 10 (by decide) rfl (hts (.fieldLink RX4 21 "SwarmLine$Keeper" "aCase" "I") (by decide +kernel)) rfl (by decide +kernel) rfl rfl (Nat.le_of_ble_eq_true rfl) (kw_kp_aCase hi9 _) dX4_init_21 (fun H locs hG hL => ?_)
  refine lv_aload_n hx hb dX4_init_24 rfl (lv_at hl 0 rfl) ?_
  refine lv_iconst (v := 0) hx hb dX4_init_25 (by decide) ?_
  refine k_pi (C := RX4) (T := TX4) (N := 12) (ci := 5) (ty := .int) S hG hL (fun w h => List.mem_cons_of_mem _ (List.mem_append_right _ h)) tyX4 tyX4_ok nmX4 (3000 + i) (hi) (kJ_kp hi9) rfl 11 (by decide) rfl (hts (.fieldLink RX4 24 "SwarmLine$Keeper" "swarmsHad" "I") (by decide +kernel)) rfl (by decide +kernel) rfl rfl (Nat.le_of_ble_eq_true rfl) (kw_kp_swarmsHad hi9 _) dX4_init_26 (fun H locs hG hL => ?_)
  refine lv_aload_n hx hb dX4_init_29 rfl (lv_at hl 0 rfl) ?_
  refine lv_iload_n hx hb dX4_init_30 rfl (lv_at hl 1 rfl) ?_
  refine k_pF (C := RX4) (T := TX4) (N := 12) (ci := 5) (ty := .int) S hG hL (fun w h => List.mem_cons_of_mem _ (List.mem_append_right _ h)) tyX4 tyX4_ok nmX4 (3000 + i) (hi) (kJ_kp hi9) rfl 0 (by decide) rfl (hts (.fieldLink RX4 27 "SwarmLine$Keeper" "x" "I") (by decide +kernel)) rfl hin2 rfl (by decide +kernel) rfl rfl (Nat.le_of_ble_eq_true rfl) (kw_kp_x hi9 _) dX4_init_31 (fun H locs hG hL => ?_)
  refine lv_aload_n hx hb dX4_init_34 rfl (lv_at hl 0 rfl) ?_
  refine lv_iload_n hx hb dX4_init_35 rfl (lv_at hl 2 rfl) ?_
  refine k_pF (C := RX4) (T := TX4) (N := 12) (ci := 5) (ty := .int) S hG hL (fun w h => List.mem_cons_of_mem _ (List.mem_append_right _ h)) tyX4 tyX4_ok nmX4 (3000 + i) (hi) (kJ_kp hi9) rfl 1 (by decide) rfl (hts (.fieldLink RX4 30 "SwarmLine$Keeper" "y" "I") (by decide +kernel)) rfl hin2 rfl (by decide +kernel) rfl rfl (Nat.le_of_ble_eq_true rfl) (kw_kp_y hi9 _) dX4_init_36 (fun H locs hG hL => ?_)
  refine lv_aload_n hx hb dX4_init_39 rfl (lv_at hl 0 rfl) ?_
  refine lv_iload_n hx hb dX4_init_40 rfl (lv_at hl 3 rfl) ?_
  refine k_pi (C := RX4) (T := TX4) (N := 12) (ci := 5) (ty := .int) S hG hL (fun w h => List.mem_cons_of_mem _ (List.mem_append_right _ h)) tyX4 tyX4_ok nmX4 (3000 + i) (hi) (kJ_kp hi9) rfl 6 (by decide) rfl (hts (.fieldLink RX4 33 "SwarmLine$Keeper" "boxes" "I") (by decide +kernel)) rfl (by decide +kernel) rfl rfl (Nat.le_of_ble_eq_true rfl) (kw_kp_boxes hi9 _) dX4_init_41 (fun H locs hG hL => ?_)
  refine lv_aload_n hx hb dX4_init_44 rfl (lv_at hl 0 rfl) ?_
  refine lv_iload hx hb dX4_init_45 (lv_at hl 4 rfl) ?_
  refine k_pF (C := RX4) (T := TX4) (N := 12) (ci := 5) (ty := .int) S hG hL (fun w h => List.mem_cons_of_mem _ (List.mem_append_right _ h)) tyX4 tyX4_ok nmX4 (3000 + i) (hi) (kJ_kp hi9) rfl 2 (by decide) rfl (hts (.fieldLink RX4 36 "SwarmLine$Keeper" "ladder" "I") (by decide +kernel)) rfl hin2 rfl (by decide +kernel) rfl rfl (Nat.le_of_ble_eq_true rfl) (kw_kp_ladder hi9 _) dX4_init_47 (fun H locs hG hL => ?_)
  refine lv_aload_n hx hb dX4_init_50 rfl (lv_at hl 0 rfl) ?_
  refine lv_iload hx hb dX4_init_51 (lv_at hl 5 rfl) ?_
  refine k_pF (C := RX4) (T := TX4) (N := 12) (ci := 5) (ty := .int) S hG hL (fun w h => List.mem_cons_of_mem _ (List.mem_append_right _ h)) tyX4 tyX4_ok nmX4 (3000 + i) (hi) (kJ_kp hi9) rfl 3 (by decide) rfl (hts (.fieldLink RX4 39 "SwarmLine$Keeper" "pace" "I") (by decide +kernel)) rfl hin2 rfl (by decide +kernel) rfl rfl (Nat.le_of_ble_eq_true rfl) (kw_kp_pace hi9 _) dX4_init_53 (fun H locs hG hL => ?_)
  refine lv_aload_n hx hb dX4_init_56 rfl (lv_at hl 0 rfl) ?_
  refine lv_iload hx hb dX4_init_57 (lv_at hl 6 rfl) ?_
  refine k_pF (C := RX4) (T := TX4) (N := 12) (ci := 5) (ty := .int) S hG hL (fun w h => List.mem_cons_of_mem _ (List.mem_append_right _ h)) tyX4 tyX4_ok nmX4 (3000 + i) (hi) (kJ_kp hi9) rfl 4 (by decide) rfl (hts (.fieldLink RX4 42 "SwarmLine$Keeper" "from" "I") (by decide +kernel)) rfl hin2 rfl (by decide +kernel) rfl rfl (Nat.le_of_ble_eq_true rfl) (kw_kp_from hi9 _) dX4_init_59 (fun H locs hG hL => ?_)
  refine lv_aload_n hx hb dX4_init_62 rfl (lv_at hl 0 rfl) ?_
  refine lv_iload hx hb dX4_init_63 (lv_at hl 7 rfl) ?_
  refine k_pF (C := RX4) (T := TX4) (N := 12) (ci := 5) (ty := .int) S hG hL (fun w h => List.mem_cons_of_mem _ (List.mem_append_right _ h)) tyX4 tyX4_ok nmX4 (3000 + i) (hi) (kJ_kp hi9) rfl 5 (by decide) rfl (hts (.fieldLink RX4 45 "SwarmLine$Keeper" "to" "I") (by decide +kernel)) rfl hin2 rfl (by decide +kernel) rfl rfl (Nat.le_of_ble_eq_true rfl) (kw_kp_to hi9 _) dX4_init_65 (fun H locs hG hL => ?_)
  exact g_vret S.1 hr hlocks hG hL rfl (congr (congrArg (kJ ce0 ad K.2.2.1 cI cB cO cR) (by rfl)) (by rfl)) dX4_init_68

set_option maxHeartbeats 800000 in
set_option maxRecDepth 100000 in
theorem c_X1_init {l : Launch} {D : va_G} {cI cZ cB cO cR cJ : ClassId} {Hb : Heap} {K : kTx} {lv : Nat → Prop} {ad : Nat → Nat} {ce0 : Nat → va_E} (s : Nat → Int32) (r : Nat → Nat → Int32) (hlv : kL lv s) (i : Nat) (hi : lv (4000 + i)) (hi9 : i < 1000) (x : Int32) (y : Int32)  : kMet l D cI cZ cB cO cR cJ Hb K lv ad ce0 yX1_init wsX1_init 1 12 [.ref (ad (4000 + i)), .int x, .int y] s r none s (up2 (up2 (up2 (up2 (up2 (up2 (up2 (up2 (up2 (up2 (up2 r 44 i 0) 41 i 0) 45 i 0) 46 i (-1)) 47 i 0) 48 i 0) 49 i (-1)) 50 i (-1)) 51 i (-1)) 42 i x) 43 i y) := by
  refine Met.ofW (cc := cX1_init) (maxL := 3) (ret := none) (by decide) rfl ?_
  intro p0 e0 s0 m0 args below meth c0 s₁ B hml hv
  obtain ⟨rfl, hG, hK, hE⟩ := hv
  have hx := B.exec
  have hb := B.bytes
  have hr := B.returns
  have hts := atoms_spec (ws := wsX1_init) B.pre
  have hown : s0.vm.findClass RX1 = some m0.cls := findClass_of_methodNamed B.named
  have hlocks := B.notSynchronized
  have S : kX p0 m0 c0 cX1_init 3 s0 _ wsX1_init RX1 D (tyL cI cZ cB cO cR cJ) Hb K := ⟨⟨hx, hb, hml, hown, hts⟩, hK, hE⟩
  have hL : gL Hb [] := gL.nil
  have hH := hG.2.2.2.2
  have hl := lv_entry ([.ref (ad (4000 + i)), .int x, .int y]) (n := 3) (Nat.le_of_ble_eq_true rfl)
  rw [lg_entry_eq]
  generalize (lg_sl ([.ref (ad (4000 + i)), .int x, .int y]) ++ List.replicate (3 - (lg_sl ([.ref (ad (4000 + i)), .int x, .int y])).length) Slot.unset).toArray = ls at hl ⊢
  have hl : lv_has ls 3 [(0, .ref (ad (4000 + i))), (1, .int x), (2, .int y)] := hl
  have hin2 : meth.name = "<init>" := (name_of_methodNamed B.named B.method).1
  refine lv_aload_n hx hb dX1_init_0 rfl (lv_at hl 0 rfl) ?_
  refine W.objInit hx hb hown (hts (.methodLink RX1 3 objectInit) (by decide +kernel)) (hts (.instanceMethod objectInit) (by decide +kernel)) (hts (.code objectInit ⟨#[0xb1]⟩ 1 none) (by decide +kernel)) rfl (by rw [hml]; exact hl.1) rfl dX1_init_1 (Nat.le_of_ble_eq_true rfl) (Nat.le_of_ble_eq_true rfl) ?_
  refine W.eq (g2 := F0 m0 4 ls []) rfl ?_
  refine lv_aload_n hx hb dX1_init_4 rfl (lv_at hl 0 rfl) ?_
  refine lv_iconst (v := 0) hx hb dX1_init_5 (by decide) ?_
  refine k_pi (C := RX1) (T := TX1) (N := 11) (ci := 2) (ty := .boolean) S hG hL (fun w h => List.mem_cons_of_mem _ (List.mem_append_right _ h)) tyX1 tyX1_ok nmX1 (4000 + i) (hi) (kJ_ca hi9) rfl 2 (by decide) rfl (hts (.fieldLink RX1 9 "SwarmLine$Case" "placeIsSure" "Z") (by decide +kernel)) rfl (by decide +kernel) (by decide) (by decide) (Nat.le_of_ble_eq_true rfl) (kw_ca_placeIsSure hi9 _) dX1_init_6 (fun H locs hG hL => ?_)
  refine lv_aload_n hx hb dX1_init_9 rfl (lv_at hl 0 rfl) ?_
  refine lv_iconst (v := 0) hx hb dX1_init_10 (by decide) ?_
  refine k_pi (C := RX1) (T := TX1) (N := 11) (ci := 2) (ty := .int) S hG hL (fun w h => List.mem_cons_of_mem _ (List.mem_append_right _ h)) tyX1 tyX1_ok nmX1 (4000 + i) (hi) (kJ_ca hi9) rfl 3 (by decide) rfl (hts (.fieldLink RX1 15 "SwarmLine$Case" "state" "I") (by decide +kernel)) rfl (by decide +kernel) rfl rfl (Nat.le_of_ble_eq_true rfl) (kw_ca_state hi9 _) dX1_init_11 (fun H locs hG hL => ?_)
  refine lv_aload_n hx hb dX1_init_14 rfl (lv_at hl 0 rfl) ?_
  refine lv_iconst (v := 0) hx hb dX1_init_15 (by decide) ?_
  refine k_pi (C := RX1) (T := TX1) (N := 11) (ci := 2) (ty := .int) S hG hL (fun w h => List.mem_cons_of_mem _ (List.mem_append_right _ h)) tyX1 tyX1_ok nmX1 (4000 + i) (hi) (kJ_ca hi9) rfl 4 (by decide) rfl (hts (.fieldLink RX1 19 "SwarmLine$Case" "high" "I") (by decide +kernel)) rfl (by decide +kernel) rfl rfl (Nat.le_of_ble_eq_true rfl) (kw_ca_high hi9 _) dX1_init_16 (fun H locs hG hL => ?_)
  refine lv_aload_n hx hb dX1_init_19 rfl (lv_at hl 0 rfl) ?_
  refine lv_iconst (v := (-1)) hx hb dX1_init_20 (by decide) ?_
  refine k_pi (C := RX1) (T := TX1) (N := 11) (ci := 2) (ty := .int) S hG hL (fun w h => List.mem_cons_of_mem _ (List.mem_append_right _ h)) tyX1 tyX1_ok nmX1 (4000 + i) (hi) (kJ_ca hi9) rfl 5 (by decide) rfl (hts (.fieldLink RX1 22 "SwarmLine$Case" "since" "I") (by decide +kernel)) rfl (by decide +kernel) rfl rfl (Nat.le_of_ble_eq_true rfl) (kw_ca_since hi9 _) dX1_init_21 (fun H locs hG hL => ?_)
  refine lv_aload_n hx hb dX1_init_24 rfl (lv_at hl 0 rfl) ?_
  refine lv_iconst (v := 0) hx hb dX1_init_25 (by decide) ?_
  refine k_pi (C := RX1) (T := TX1) (N := 11) (ci := 2) (ty := .int) S hG hL (fun w h => List.mem_cons_of_mem _ (List.mem_append_right _ h)) tyX1 tyX1_ok nmX1 (4000 + i) (hi) (kJ_ca hi9) rfl 6 (by decide) rfl (hts (.fieldLink RX1 25 "SwarmLine$Case" "mark" "I") (by decide +kernel)) rfl (by decide +kernel) rfl rfl (Nat.le_of_ble_eq_true rfl) (kw_ca_mark hi9 _) dX1_init_26 (fun H locs hG hL => ?_)
  refine lv_aload_n hx hb dX1_init_29 rfl (lv_at hl 0 rfl) ?_
  refine lv_iconst (v := 0) hx hb dX1_init_30 (by decide) ?_
  refine k_pi (C := RX1) (T := TX1) (N := 11) (ci := 2) (ty := .int) S hG hL (fun w h => List.mem_cons_of_mem _ (List.mem_append_right _ h)) tyX1 tyX1_ok nmX1 (4000 + i) (hi) (kJ_ca hi9) rfl 7 (by decide) rfl (hts (.fieldLink RX1 28 "SwarmLine$Case" "callsMelted" "I") (by decide +kernel)) rfl (by decide +kernel) rfl rfl (Nat.le_of_ble_eq_true rfl) (kw_ca_callsMelted hi9 _) dX1_init_31 (fun H locs hG hL => ?_)
  refine lv_aload_n hx hb dX1_init_34 rfl (lv_at hl 0 rfl) ?_
  refine lv_iconst (v := (-1)) hx hb dX1_init_35 (by decide) ?_
  refine k_pi (C := RX1) (T := TX1) (N := 11) (ci := 2) (ty := .int) S hG hL (fun w h => List.mem_cons_of_mem _ (List.mem_append_right _ h)) tyX1 tyX1_ok nmX1 (4000 + i) (hi) (kJ_ca hi9) rfl 8 (by decide) rfl (hts (.fieldLink RX1 31 "SwarmLine$Case" "latest" "I") (by decide +kernel)) rfl (by decide +kernel) rfl rfl (Nat.le_of_ble_eq_true rfl) (kw_ca_latest hi9 _) dX1_init_36 (fun H locs hG hL => ?_)
  refine lv_aload_n hx hb dX1_init_39 rfl (lv_at hl 0 rfl) ?_
  refine lv_iconst (v := (-1)) hx hb dX1_init_40 (by decide) ?_
  refine k_pi (C := RX1) (T := TX1) (N := 11) (ci := 2) (ty := .int) S hG hL (fun w h => List.mem_cons_of_mem _ (List.mem_append_right _ h)) tyX1 tyX1_ok nmX1 (4000 + i) (hi) (kJ_ca hi9) rfl 9 (by decide) rfl (hts (.fieldLink RX1 34 "SwarmLine$Case" "keeper" "I") (by decide +kernel)) rfl (by decide +kernel) rfl rfl (Nat.le_of_ble_eq_true rfl) (kw_ca_keeper hi9 _) dX1_init_41 (fun H locs hG hL => ?_)
  refine lv_aload_n hx hb dX1_init_44 rfl (lv_at hl 0 rfl) ?_
  refine lv_iconst (v := (-1)) hx hb dX1_init_45 (by decide) ?_
  refine k_pi (C := RX1) (T := TX1) (N := 11) (ci := 2) (ty := .int) S hG hL (fun w h => List.mem_cons_of_mem _ (List.mem_append_right _ h)) tyX1 tyX1_ok nmX1 (4000 + i) (hi) (kJ_ca hi9) rfl 10 (by decide) rfl (hts (.fieldLink RX1 37 "SwarmLine$Case" "swarm" "I") (by decide +kernel)) rfl (by decide +kernel) rfl rfl (Nat.le_of_ble_eq_true rfl) (kw_ca_swarm hi9 _) dX1_init_46 (fun H locs hG hL => ?_)
  refine lv_aload_n hx hb dX1_init_49 rfl (lv_at hl 0 rfl) ?_
  refine lv_iload_n hx hb dX1_init_50 rfl (lv_at hl 1 rfl) ?_
  refine k_pi (C := RX1) (T := TX1) (N := 11) (ci := 2) (ty := .int) S hG hL (fun w h => List.mem_cons_of_mem _ (List.mem_append_right _ h)) tyX1 tyX1_ok nmX1 (4000 + i) (hi) (kJ_ca hi9) rfl 0 (by decide) rfl (hts (.fieldLink RX1 40 "SwarmLine$Case" "x" "I") (by decide +kernel)) rfl (by decide +kernel) rfl rfl (Nat.le_of_ble_eq_true rfl) (kw_ca_x hi9 _) dX1_init_51 (fun H locs hG hL => ?_)
  refine lv_aload_n hx hb dX1_init_54 rfl (lv_at hl 0 rfl) ?_
  refine lv_iload_n hx hb dX1_init_55 rfl (lv_at hl 2 rfl) ?_
  refine k_pi (C := RX1) (T := TX1) (N := 11) (ci := 2) (ty := .int) S hG hL (fun w h => List.mem_cons_of_mem _ (List.mem_append_right _ h)) tyX1 tyX1_ok nmX1 (4000 + i) (hi) (kJ_ca hi9) rfl 1 (by decide) rfl (hts (.fieldLink RX1 43 "SwarmLine$Case" "y" "I") (by decide +kernel)) rfl (by decide +kernel) rfl rfl (Nat.le_of_ble_eq_true rfl) (kw_ca_y hi9 _) dX1_init_56 (fun H locs hG hL => ?_)
  exact g_vret S.1 hr hlocks hG hL rfl (congr (congrArg (kJ ce0 ad K.2.2.1 cI cB cO cR) (by rfl)) (by rfl)) dX1_init_59

set_option maxHeartbeats 800000 in
set_option maxRecDepth 100000 in
theorem c_X6_init {l : Launch} {D : va_G} {cI cZ cB cO cR cJ : ClassId} {Hb : Heap} {K : kTx} {lv : Nat → Prop} {ad : Nat → Nat} {ce0 : Nat → va_E} (s : Nat → Int32) (r : Nat → Nat → Int32) (hlv : kL lv s) (i : Nat) (hi : lv (2000 + i)) (hi9 : i < 1000) (k : Int32) (j : Nat) (hj : j < (s 6).toNatClampNeg) (hj9 : j < 1000) (nw : Int32)  : kMet l D cI cZ cB cO cR cJ Hb K lv ad ce0 yX6_init wsX6_init 2 45 [.ref (ad (2000 + i)), .int k, .ref (ad (1000 + j)), .int nw] s r none s (up2 (up2 (up2 (up2 (up2 (up2 (up2 (up2 (up2 (up2 (up2 r 22 i 60) 15 i 0) 23 i (-1)) 25 i (-1)) 24 i (-1)) 16 i k) 17 i ((r 9 j) / 2)) 18 i (kDr (r 7 j) ((r 9 j) / 1000 + (nw / 24)))) 19 i (kDr (r 8 j) ((r 9 j) / 100 + (nw / 24)))) 20 i (((r 9 j) / 10) - ((r 9 j) / 10) / 9 * 9 + 1)) 21 i nw) := by
  refine Met.ofW (cc := cX6_init) (maxL := 5) (ret := none) (by decide) rfl ?_
  intro p0 e0 s0 m0 args below meth c0 s₁ B hml hv
  obtain ⟨rfl, hG, hK, hE⟩ := hv
  have hx := B.exec
  have hb := B.bytes
  have hr := B.returns
  have hts := atoms_spec (ws := wsX6_init) B.pre
  have hown : s0.vm.findClass RX6 = some m0.cls := findClass_of_methodNamed B.named
  have hlocks := B.notSynchronized
  have S : kX p0 m0 c0 cX6_init 5 s0 _ wsX6_init RX6 D (tyL cI cZ cB cO cR cJ) Hb K := ⟨⟨hx, hb, hml, hown, hts⟩, hK, hE⟩
  have hL : gL Hb [] := gL.nil
  have hH := hG.2.2.2.2
  have hl := lv_entry ([.ref (ad (2000 + i)), .int k, .ref (ad (1000 + j)), .int nw]) (n := 5) (Nat.le_of_ble_eq_true rfl)
  rw [lg_entry_eq]
  generalize (lg_sl ([.ref (ad (2000 + i)), .int k, .ref (ad (1000 + j)), .int nw]) ++ List.replicate (5 - (lg_sl ([.ref (ad (2000 + i)), .int k, .ref (ad (1000 + j)), .int nw])).length) Slot.unset).toArray = ls at hl ⊢
  have hl : lv_has ls 5 [(0, .ref (ad (2000 + i))), (1, .int k), (2, .ref (ad (1000 + j))), (3, .int nw)] := hl
  have hin2 : meth.name = "<init>" := (name_of_methodNamed B.named B.method).1
  refine lv_aload_n hx hb dX6_init_0 rfl (lv_at hl 0 rfl) ?_
  refine W.objInit hx hb hown (hts (.methodLink RX6 3 objectInit) (by decide +kernel)) (hts (.instanceMethod objectInit) (by decide +kernel)) (hts (.code objectInit ⟨#[0xb1]⟩ 1 none) (by decide +kernel)) rfl (by rw [hml]; exact hl.1) rfl dX6_init_1 (Nat.le_of_ble_eq_true rfl) (Nat.le_of_ble_eq_true rfl) ?_
  refine W.eq (g2 := F0 m0 4 ls []) rfl ?_
  refine lv_aload_n hx hb dX6_init_4 rfl (lv_at hl 0 rfl) ?_
  refine lv_bipush (v := 60) hx hb dX6_init_5 (by decide) ?_
  refine k_pi (C := RX6) (T := TX6) (N := 11) (ci := 7) (ty := .int) S hG hL (fun w h => List.mem_cons_of_mem _ (List.mem_append_left _ (List.mem_append_right _ h))) tyX6 tyX6_ok nmX6 (2000 + i) (hi) (kJ_sw hi9) rfl 6 (by decide) rfl (hts (.fieldLink RX6 9 "SwarmLine$Swarm" "patience" "I") (by decide +kernel)) rfl (by decide +kernel) rfl rfl (Nat.le_of_ble_eq_true rfl) (kw_sw_patience hi9 _) dX6_init_7 (fun H locs hG hL => ?_)
  refine lv_aload_n hx hb dX6_init_10 rfl (lv_at hl 0 rfl) ?_
  refine lv_iconst (v := 0) hx hb dX6_init_11 (by decide) ?_
  refine k_pi (C := RX6) (T := TX6) (N := 11) (ci := 7) (ty := .int) S hG hL (fun w h => List.mem_cons_of_mem _ (List.mem_append_left _ (List.mem_append_right _ h))) tyX6 tyX6_ok nmX6 (2000 + i) (hi) (kJ_sw hi9) rfl 7 (by decide) rfl (hts (.fieldLink RX6 15 "SwarmLine$Swarm" "state" "I") (by decide +kernel)) rfl (by decide +kernel) rfl rfl (Nat.le_of_ble_eq_true rfl) (kw_sw_state hi9 _) dX6_init_12 (fun H locs hG hL => ?_)
  refine lv_aload_n hx hb dX6_init_15 rfl (lv_at hl 0 rfl) ?_
  refine lv_iconst (v := (-1)) hx hb dX6_init_16 (by decide) ?_
  refine k_pi (C := RX6) (T := TX6) (N := 11) (ci := 7) (ty := .int) S hG hL (fun w h => List.mem_cons_of_mem _ (List.mem_append_left _ (List.mem_append_right _ h))) tyX6 tyX6_ok nmX6 (2000 + i) (hi) (kJ_sw hi9) rfl 8 (by decide) rfl (hts (.fieldLink RX6 18 "SwarmLine$Swarm" "keeper" "I") (by decide +kernel)) rfl (by decide +kernel) rfl rfl (Nat.le_of_ble_eq_true rfl) (kw_sw_keeper hi9 _) dX6_init_17 (fun H locs hG hL => ?_)
  refine lv_aload_n hx hb dX6_init_20 rfl (lv_at hl 0 rfl) ?_
  refine lv_iconst (v := (-1)) hx hb dX6_init_21 (by decide) ?_
  refine k_pi (C := RX6) (T := TX6) (N := 11) (ci := 7) (ty := .int) S hG hL (fun w h => List.mem_cons_of_mem _ (List.mem_append_left _ (List.mem_append_right _ h))) tyX6 tyX6_ok nmX6 (2000 + i) (hi) (kJ_sw hi9) rfl 9 (by decide) rfl (hts (.fieldLink RX6 21 "SwarmLine$Swarm" "aCase" "I") (by decide +kernel)) rfl (by decide +kernel) rfl rfl (Nat.le_of_ble_eq_true rfl) (kw_sw_aCase hi9 _) dX6_init_22 (fun H locs hG hL => ?_)
  refine lv_aload_n hx hb dX6_init_25 rfl (lv_at hl 0 rfl) ?_
  refine lv_iconst (v := (-1)) hx hb dX6_init_26 (by decide) ?_
  refine k_pi (C := RX6) (T := TX6) (N := 11) (ci := 7) (ty := .int) S hG hL (fun w h => List.mem_cons_of_mem _ (List.mem_append_left _ (List.mem_append_right _ h))) tyX6 tyX6_ok nmX6 (2000 + i) (hi) (kJ_sw hi9) rfl 10 (by decide) rfl (hts (.fieldLink RX6 24 "SwarmLine$Swarm" "ended" "I") (by decide +kernel)) rfl (by decide +kernel) rfl rfl (Nat.le_of_ble_eq_true rfl) (kw_sw_ended hi9 _) dX6_init_27 (fun H locs hG hL => ?_)
  refine lv_iload_n hx hb dX6_init_30 rfl (lv_at hl 3 rfl) ?_
  refine lv_bipush (v := 24) hx hb dX6_init_31 (by decide) ?_
  refine lv_idiv hx hb dX6_init_33 (by decide) ?_
  refine lv_istore (lv' := [(4, .int (nw / 24)), (0, .ref (ad (2000 + i))), (1, .int k), (2, .ref (ad (1000 + j))), (3, .int nw)]) hx hb dX6_init_34 hl (by decide) rfl (fun ls hl => ?_)
  refine lv_aload_n hx hb dX6_init_36 rfl (lv_at hl 1 rfl) ?_
  refine lv_iload_n hx hb dX6_init_37 rfl (lv_at hl 2 rfl) ?_
  refine k_pF (C := RX6) (T := TX6) (N := 11) (ci := 7) (ty := .int) S hG hL (fun w h => List.mem_cons_of_mem _ (List.mem_append_left _ (List.mem_append_right _ h))) tyX6 tyX6_ok nmX6 (2000 + i) (hi) (kJ_sw hi9) rfl 0 (by decide) rfl (hts (.fieldLink RX6 27 "SwarmLine$Swarm" "hive" "I") (by decide +kernel)) rfl hin2 rfl (by decide +kernel) rfl rfl (Nat.le_of_ble_eq_true rfl) (kw_sw_hive hi9 _) dX6_init_38 (fun H locs hG hL => ?_)
  refine lv_aload_n hx hb dX6_init_41 rfl (lv_at hl 1 rfl) ?_
  refine lv_aload_n hx hb dX6_init_42 rfl (lv_at hl 3 rfl) ?_
  refine k_giN (C := RX3) (T := TX3) (N := 7) (ci := 4) (v := r 9 j) S hG (fun w h => List.mem_cons_of_mem _ (List.mem_append_right _ h)) (1000 + j) (hlv.hv hj) (kJ_hv hj9) rfl 4 (by decide) rfl (by decide +kernel) rfl ((up2_n _ _ _ _ (by decide)).trans ((up2_n _ _ _ _ (by decide)).trans ((up2_n _ _ _ _ (by decide)).trans ((up2_n _ _ _ _ (by decide)).trans ((up2_n _ _ _ _ (by decide)).trans ((up2_n _ _ _ _ (by decide)).trans (rfl))))))) dX6_init_43 ?_
  refine lv_iconst (v := 2) hx hb dX6_init_46 (by decide) ?_
  refine lv_idiv hx hb dX6_init_47 (by decide) ?_
  refine k_pF (C := RX6) (T := TX6) (N := 11) (ci := 7) (ty := .int) S hG hL (fun w h => List.mem_cons_of_mem _ (List.mem_append_left _ (List.mem_append_right _ h))) tyX6 tyX6_ok nmX6 (2000 + i) (hi) (kJ_sw hi9) rfl 1 (by decide) rfl (hts (.fieldLink RX6 35 "SwarmLine$Swarm" "bees" "I") (by decide +kernel)) rfl hin2 rfl (by decide +kernel) rfl rfl (Nat.le_of_ble_eq_true rfl) (kw_sw_bees hi9 _) dX6_init_48 (fun H locs hG hL => ?_)
  refine lv_aload_n hx hb dX6_init_51 rfl (lv_at hl 1 rfl) ?_
  refine lv_aload_n hx hb dX6_init_52 rfl (lv_at hl 3 rfl) ?_
  refine k_giN (C := RX3) (T := TX3) (N := 7) (ci := 4) (v := r 7 j) S hG (fun w h => List.mem_cons_of_mem _ (List.mem_append_right _ h)) (1000 + j) (hlv.hv hj) (kJ_hv hj9) rfl 0 (by decide) rfl (by decide +kernel) rfl ((up2_n _ _ _ _ (by decide)).trans ((up2_n _ _ _ _ (by decide)).trans ((up2_n _ _ _ _ (by decide)).trans ((up2_n _ _ _ _ (by decide)).trans ((up2_n _ _ _ _ (by decide)).trans ((up2_n _ _ _ _ (by decide)).trans ((up2_n _ _ _ _ (by decide)).trans (rfl)))))))) dX6_init_53 ?_
  refine lv_aload_n hx hb dX6_init_56 rfl (lv_at hl 3 rfl) ?_
  refine k_giN (C := RX3) (T := TX3) (N := 7) (ci := 4) (v := r 9 j) S hG (fun w h => List.mem_cons_of_mem _ (List.mem_append_right _ h)) (1000 + j) (hlv.hv hj) (kJ_hv hj9) rfl 4 (by decide) rfl (by decide +kernel) rfl ((up2_n _ _ _ _ (by decide)).trans ((up2_n _ _ _ _ (by decide)).trans ((up2_n _ _ _ _ (by decide)).trans ((up2_n _ _ _ _ (by decide)).trans ((up2_n _ _ _ _ (by decide)).trans ((up2_n _ _ _ _ (by decide)).trans ((up2_n _ _ _ _ (by decide)).trans (rfl)))))))) dX6_init_57 ?_
  refine lv_sipush (v := 1000) hx hb dX6_init_60 (by decide) ?_
  refine lv_idiv hx hb dX6_init_63 (by decide) ?_
  refine lv_iload hx hb dX6_init_64 (lv_at hl 0 rfl) ?_
  refine lv_iadd hx hb dX6_init_66 ?_
  refine m_callP (n := 2) (As := [.int (r 7 j), .int (((r 9 j) / 1000) + (nw / 24))]) (rest := [.ref (ad (2000 + i))]) (st1 := .int (kDr (r 7 j) (((r 9 j) / 1000) + (nw / 24))) :: [.ref (ad (2000 + i))]) S.1 (c_X6_drifted (r 7 j) (((r 9 j) / 1000) + (nw / 24))) gX6_init_X6_drifted rfl (by decide +kernel) ⟨Nat.le_of_ble_eq_true rfl, Nat.le_of_ble_eq_true rfl⟩ rfl hl.1 rfl (Nat.le_of_ble_eq_true rfl) dX6_init_67 ⟨Nat.zero_le _, Nat.zero_le _⟩ (rfl) ?_
  refine k_pF (C := RX6) (T := TX6) (N := 11) (ci := 7) (ty := .int) S hG hL (fun w h => List.mem_cons_of_mem _ (List.mem_append_left _ (List.mem_append_right _ h))) tyX6 tyX6_ok nmX6 (2000 + i) (hi) (kJ_sw hi9) rfl 2 (by decide) rfl (hts (.fieldLink RX6 43 "SwarmLine$Swarm" "x" "I") (by decide +kernel)) rfl hin2 rfl (by decide +kernel) rfl rfl (Nat.le_of_ble_eq_true rfl) (kw_sw_x hi9 _) dX6_init_70 (fun H locs hG hL => ?_)
  refine lv_aload_n hx hb dX6_init_73 rfl (lv_at hl 1 rfl) ?_
  refine lv_aload_n hx hb dX6_init_74 rfl (lv_at hl 3 rfl) ?_
  refine k_giN (C := RX3) (T := TX3) (N := 7) (ci := 4) (v := r 8 j) S hG (fun w h => List.mem_cons_of_mem _ (List.mem_append_right _ h)) (1000 + j) (hlv.hv hj) (kJ_hv hj9) rfl 1 (by decide) rfl (by decide +kernel) rfl ((up2_n _ _ _ _ (by decide)).trans ((up2_n _ _ _ _ (by decide)).trans ((up2_n _ _ _ _ (by decide)).trans ((up2_n _ _ _ _ (by decide)).trans ((up2_n _ _ _ _ (by decide)).trans ((up2_n _ _ _ _ (by decide)).trans ((up2_n _ _ _ _ (by decide)).trans ((up2_n _ _ _ _ (by decide)).trans (rfl))))))))) dX6_init_75 ?_
  refine lv_aload_n hx hb dX6_init_78 rfl (lv_at hl 3 rfl) ?_
  refine k_giN (C := RX3) (T := TX3) (N := 7) (ci := 4) (v := r 9 j) S hG (fun w h => List.mem_cons_of_mem _ (List.mem_append_right _ h)) (1000 + j) (hlv.hv hj) (kJ_hv hj9) rfl 4 (by decide) rfl (by decide +kernel) rfl ((up2_n _ _ _ _ (by decide)).trans ((up2_n _ _ _ _ (by decide)).trans ((up2_n _ _ _ _ (by decide)).trans ((up2_n _ _ _ _ (by decide)).trans ((up2_n _ _ _ _ (by decide)).trans ((up2_n _ _ _ _ (by decide)).trans ((up2_n _ _ _ _ (by decide)).trans ((up2_n _ _ _ _ (by decide)).trans (rfl))))))))) dX6_init_79 ?_
  refine lv_bipush (v := 100) hx hb dX6_init_82 (by decide) ?_
  refine lv_idiv hx hb dX6_init_84 (by decide) ?_
  refine lv_iload hx hb dX6_init_85 (lv_at hl 0 rfl) ?_
  refine lv_iadd hx hb dX6_init_87 ?_
  refine m_callP (n := 2) (As := [.int (r 8 j), .int (((r 9 j) / 100) + (nw / 24))]) (rest := [.ref (ad (2000 + i))]) (st1 := .int (kDr (r 8 j) (((r 9 j) / 100) + (nw / 24))) :: [.ref (ad (2000 + i))]) S.1 (c_X6_drifted (r 8 j) (((r 9 j) / 100) + (nw / 24))) gX6_init_X6_drifted rfl (by decide +kernel) ⟨Nat.le_of_ble_eq_true rfl, Nat.le_of_ble_eq_true rfl⟩ rfl hl.1 rfl (Nat.le_of_ble_eq_true rfl) dX6_init_88 ⟨Nat.zero_le _, Nat.zero_le _⟩ (rfl) ?_
  refine k_pF (C := RX6) (T := TX6) (N := 11) (ci := 7) (ty := .int) S hG hL (fun w h => List.mem_cons_of_mem _ (List.mem_append_left _ (List.mem_append_right _ h))) tyX6 tyX6_ok nmX6 (2000 + i) (hi) (kJ_sw hi9) rfl 3 (by decide) rfl (hts (.fieldLink RX6 47 "SwarmLine$Swarm" "y" "I") (by decide +kernel)) rfl hin2 rfl (by decide +kernel) rfl rfl (Nat.le_of_ble_eq_true rfl) (kw_sw_y hi9 _) dX6_init_91 (fun H locs hG hL => ?_)
  refine lv_aload_n hx hb dX6_init_94 rfl (lv_at hl 1 rfl) ?_
  refine lv_aload_n hx hb dX6_init_95 rfl (lv_at hl 3 rfl) ?_
  refine k_giN (C := RX3) (T := TX3) (N := 7) (ci := 4) (v := r 9 j) S hG (fun w h => List.mem_cons_of_mem _ (List.mem_append_right _ h)) (1000 + j) (hlv.hv hj) (kJ_hv hj9) rfl 4 (by decide) rfl (by decide +kernel) rfl ((up2_n _ _ _ _ (by decide)).trans ((up2_n _ _ _ _ (by decide)).trans ((up2_n _ _ _ _ (by decide)).trans ((up2_n _ _ _ _ (by decide)).trans ((up2_n _ _ _ _ (by decide)).trans ((up2_n _ _ _ _ (by decide)).trans ((up2_n _ _ _ _ (by decide)).trans ((up2_n _ _ _ _ (by decide)).trans ((up2_n _ _ _ _ (by decide)).trans (rfl)))))))))) dX6_init_96 ?_
  refine lv_bipush (v := 10) hx hb dX6_init_99 (by decide) ?_
  refine lv_idiv hx hb dX6_init_101 (by decide) ?_
  refine lv_bipush (v := 9) hx hb dX6_init_102 (by decide) ?_
  refine lv_irem hx hb dX6_init_104 (by decide) ?_
  refine lv_iconst (v := 1) hx hb dX6_init_105 (by decide) ?_
  refine lv_iadd hx hb dX6_init_106 ?_
  refine k_pF (C := RX6) (T := TX6) (N := 11) (ci := 7) (ty := .int) S hG hL (fun w h => List.mem_cons_of_mem _ (List.mem_append_left _ (List.mem_append_right _ h))) tyX6 tyX6_ok nmX6 (2000 + i) (hi) (kJ_sw hi9) rfl 4 (by decide) rfl (hts (.fieldLink RX6 48 "SwarmLine$Swarm" "height" "I") (by decide +kernel)) rfl hin2 rfl (by decide +kernel) rfl rfl (Nat.le_of_ble_eq_true rfl) (kw_sw_height hi9 _) dX6_init_107 (fun H locs hG hL => ?_)
  refine lv_aload_n hx hb dX6_init_110 rfl (lv_at hl 1 rfl) ?_
  refine lv_iload_n hx hb dX6_init_111 rfl (lv_at hl 4 rfl) ?_
  refine k_pF (C := RX6) (T := TX6) (N := 11) (ci := 7) (ty := .int) S hG hL (fun w h => List.mem_cons_of_mem _ (List.mem_append_left _ (List.mem_append_right _ h))) tyX6 tyX6_ok nmX6 (2000 + i) (hi) (kJ_sw hi9) rfl 5 (by decide) rfl (hts (.fieldLink RX6 51 "SwarmLine$Swarm" "leftAt" "I") (by decide +kernel)) rfl hin2 rfl (by decide +kernel) rfl rfl (Nat.le_of_ble_eq_true rfl) (kw_sw_leftAt hi9 _) dX6_init_112 (fun H locs hG hL => ?_)
  exact g_vret S.1 hr hlocks hG hL rfl (congr (congrArg (kJ ce0 ad K.2.2.1 cI cB cO cR) (by rfl)) (by rfl)) dX6_init_115
