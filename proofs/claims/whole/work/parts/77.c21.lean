/-! a hive's noon -/
theorem day_in {x : Int32} (h0 : 0 ≤ x.toInt) (h1 : x.toInt ≤ 743) : vp_in (x / 24) 31 := vp_in_t (by rw [t_div24 h0]; omega) (by rw [t_div24 h0]; omega)
def pnG (i : Nat) (s : Nat → Int32) (r : Nat → Nat → Int32) : Nat → Nat → Int32 := gwR i (r 3 (Int32.toNatClampNeg (s 1 / 24))) (r 2 (Int32.toNatClampNeg (s 1 / 24))) r
def pnV (i : Nat) (s : Nat → Int32) (r : Nat → Nat → Int32) : Int32 := if pnG i s r 9 i ≤ pnG i s r 10 i then 0 else if pnG i s r 12 i < 3 then 0 else 1
def pnY (i : Nat) (s : Nat → Int32) (r : Nat → Nat → Int32) : Prop := ¬ pnV i s r = 0 ∧ s 14 < 60
def pnS (s : Nat → Int32) : Nat → Int32 := upd (upd s 122 (s 122 + 1)) 14 (s 14 + 1)
def pnI (x : Int32) (i : Nat) (s : Nat → Int32) (r : Nat → Nat → Int32) : Nat → Nat → Int32 := (up2 (up2 (up2 (up2 (up2 (up2 (up2 (up2 (up2 (up2 (up2 (zsw (pnG i s r) (s 14).toNatClampNeg) 22 ((s 14).toNatClampNeg) 60) 15 ((s 14).toNatClampNeg) 0) 23 ((s 14).toNatClampNeg) (-1)) 25 ((s 14).toNatClampNeg) (-1)) 24 ((s 14).toNatClampNeg) (-1)) 16 ((s 14).toNatClampNeg) x) 17 ((s 14).toNatClampNeg) (((zsw (pnG i s r) (s 14).toNatClampNeg) 9 i) / 2)) 18 ((s 14).toNatClampNeg) (kDr ((zsw (pnG i s r) (s 14).toNatClampNeg) 7 i) (((zsw (pnG i s r) (s 14).toNatClampNeg) 9 i) / 1000 + ((s 1) / 24)))) 19 ((s 14).toNatClampNeg) (kDr ((zsw (pnG i s r) (s 14).toNatClampNeg) 8 i) (((zsw (pnG i s r) (s 14).toNatClampNeg) 9 i) / 100 + ((s 1) / 24)))) 20 ((s 14).toNatClampNeg) ((((zsw (pnG i s r) (s 14).toNatClampNeg) 9 i) / 10) - (((zsw (pnG i s r) (s 14).toNatClampNeg) 9 i) / 10) / 9 * 9 + 1)) 21 ((s 14).toNatClampNeg) (s 1))
def pnR (x : Int32) (i : Nat) (s : Nat → Int32) (r : Nat → Nat → Int32) : Nat → Nat → Int32 := up2 (up2 (up2 (pnI x i s r) 9 i (pnI x i s r 9 i - pnI x i s r 9 i / 2)) 12 i 0) 13 i (s 1)

set_option maxHeartbeats 1600000 in
set_option maxRecDepth 100000 in
theorem c_X9_passNoon_no {l : Launch} {D : va_G} {cI cZ cB cO cR cJ : ClassId} {Hb : Heap} {K : kTx} {lv : Nat → Prop} {ad : Nat → Nat} {ce0 : Nat → va_E} (s : Nat → Int32) (r : Nat → Nat → Int32) (hlv : kL lv s) (x : Int32) (i : Nat) (hi : i < (s 6).toNatClampNeg) (hi9 : i < 1000) (ex : x = nI i) (h0 : 0 ≤ (s 6).toInt) (h1 : (s 6).toInt ≤ 60) (hw0 : 0 ≤ (s 1).toInt) (hw1 : (s 1).toInt ≤ 743) (hno : ¬ pnY i s r) : kMet l D cI cZ cB cO cR cJ Hb K lv ad ce0 yX9_passNoon wsX9_passNoon 3 65 [.ref (ad 100), .int x, .ref (ad (1000 + i))] s r none s (pnG i s r) := by
  refine Met.ofW (cc := cX9_passNoon) (maxL := 4) (ret := none) (by decide) rfl ?_
  intro p0 e0 s0 m0 args below meth c0 s₁ B hml hv
  obtain ⟨rfl, hG, hK, hE⟩ := hv
  have hx := B.exec
  have hb := B.bytes
  have hr := B.returns
  have hts := atoms_spec (ws := wsX9_passNoon) B.pre
  have hown : s0.vm.findClass RX9 = some m0.cls := findClass_of_methodNamed B.named
  have hlocks := B.notSynchronized
  have S : kX p0 m0 c0 cX9_passNoon 4 s0 _ wsX9_passNoon RX9 D (tyL cI cZ cB cO cR cJ) Hb K := ⟨⟨hx, hb, hml, hown, hts⟩, hK, hE⟩
  have hL : gL Hb [] := gL.nil
  have hH := hG.2.2.2.2
  have hl := lv_entry ([.ref (ad 100), .int x, .ref (ad (1000 + i))]) (n := 4) (Nat.le_of_ble_eq_true rfl)
  rw [lg_entry_eq]
  generalize (lg_sl ([.ref (ad 100), .int x, .ref (ad (1000 + i))]) ++ List.replicate (4 - (lg_sl ([.ref (ad 100), .int x, .ref (ad (1000 + i))])).length) Slot.unset).toArray = ls at hl ⊢
  have hl : lv_has ls 4 [(0, .ref (ad 100)), (1, .int x), (2, .ref (ad (1000 + i)))] := hl
  have hi60 : i < 60 := by { have q := t_ix h0; omega }
  refine lv_aload_n hx hb dX9_passNoon_0 rfl (lv_at hl 0 rfl) ?_
  refine k_callV (n := 0) (As := []) (rest := []) (st1 := .int (s 1 / 24) :: []) (k := 100) (ci := 10) S hG hL (hlv.f (by decide) (by decide)) rfl rfl (c_X9_today s r hlv   ) gX9_passNoon_X9_today rfl ⟨rfl, rfl⟩ (by decide +kernel) ⟨Nat.le_of_ble_eq_true rfl, Nat.le_of_ble_eq_true rfl⟩ rfl hl.1 rfl (Nat.le_of_ble_eq_true rfl) dX9_passNoon_1 ⟨Nat.zero_le _, Nat.zero_le _⟩ (rfl) (fun H locs hG hL => ?_)
  refine lv_istore_n (lv' := [(3, .int (s 1 / 24)), (0, .ref (ad 100)), (1, .int x), (2, .ref (ad (1000 + i)))]) hx hb dX9_passNoon_4 rfl hl (by decide) rfl (fun ls hl => ?_)
  refine lv_aload_n hx hb dX9_passNoon_5 rfl (lv_at hl 3 rfl) ?_
  refine lv_aload_n hx hb dX9_passNoon_6 rfl (lv_at hl 1 rfl) ?_
  refine k_ga (C := RX9) (T := TX9) (N := 14) (ci := 10) (v := .ref (ad 103)) S hG (fun w h => List.mem_cons_of_mem _ (List.mem_append_left _ (List.mem_append_left _ (List.mem_append_left _ (List.mem_append_left _ (List.mem_append_right _ h)))))) 100 (hlv.f (by decide) (by decide)) rfl rfl 2 (by decide) rfl (hts (.fieldLink RX9 26 "SwarmLine" "sky" "LSwarmLine$Sky;") (by decide +kernel)) rfl dX9_passNoon_7 ?_
  refine lv_iload_n hx hb dX9_passNoon_10 rfl (lv_at hl 0 rfl) ?_
  refine k_callV (n := 1) (As := [.int (s 1 / 24)]) (rest := [.ref (ad (1000 + i))]) (st1 := .int (r 3 (Int32.toNatClampNeg (s 1 / 24))) :: [.ref (ad (1000 + i))]) (k := 103) (ci := 6) S hG hL (hlv.f (by decide) (by decide)) rfl rfl (c_X5_bloomOf s r hlv  (s 1 / 24) (day_0 hw0)) gX9_passNoon_X5_bloomOf rfl ⟨rfl, rfl⟩ (by decide +kernel) ⟨Nat.le_of_ble_eq_true rfl, Nat.le_of_ble_eq_true rfl⟩ rfl hl.1 rfl (Nat.le_of_ble_eq_true rfl) dX9_passNoon_11 ⟨Nat.zero_le _, Nat.zero_le _⟩ (by rw [cap_day hw0 hw1]; rfl) (fun H locs hG hL => ?_)
  refine lv_aload_n hx hb dX9_passNoon_14 rfl (lv_at hl 1 rfl) ?_
  refine k_ga (C := RX9) (T := TX9) (N := 14) (ci := 10) (v := .ref (ad 103)) S hG (fun w h => List.mem_cons_of_mem _ (List.mem_append_left _ (List.mem_append_left _ (List.mem_append_left _ (List.mem_append_left _ (List.mem_append_right _ h)))))) 100 (hlv.f (by decide) (by decide)) rfl rfl 2 (by decide) rfl (hts (.fieldLink RX9 26 "SwarmLine" "sky" "LSwarmLine$Sky;") (by decide +kernel)) rfl dX9_passNoon_15 ?_
  refine lv_iload_n hx hb dX9_passNoon_18 rfl (lv_at hl 0 rfl) ?_
  refine k_callV (n := 1) (As := [.int (s 1 / 24)]) (rest := [.int (r 3 (Int32.toNatClampNeg (s 1 / 24))), .ref (ad (1000 + i))]) (st1 := .int (r 2 (Int32.toNatClampNeg (s 1 / 24))) :: [.int (r 3 (Int32.toNatClampNeg (s 1 / 24))), .ref (ad (1000 + i))]) (k := 103) (ci := 6) S hG hL (hlv.f (by decide) (by decide)) rfl rfl (c_X5_warmthOf s r hlv  (s 1 / 24) (day_0 hw0)) gX9_passNoon_X5_warmthOf rfl ⟨rfl, rfl⟩ (by decide +kernel) ⟨Nat.le_of_ble_eq_true rfl, Nat.le_of_ble_eq_true rfl⟩ rfl hl.1 rfl (Nat.le_of_ble_eq_true rfl) dX9_passNoon_19 ⟨Nat.zero_le _, Nat.zero_le _⟩ (by rw [cap_day hw0 hw1]; rfl) (fun H locs hG hL => ?_)
  refine k_callV (n := 2) (As := [.int (r 3 (Int32.toNatClampNeg (s 1 / 24))), .int (r 2 (Int32.toNatClampNeg (s 1 / 24)))]) (rest := []) (st1 := []) (k := 1000 + i) (ci := 4) S hG hL (hlv.hv hi) (kJ_hv hi9) rfl (c_X3_grow s r hlv i hi hi9 (r 3 (Int32.toNatClampNeg (s 1 / 24))) (r 2 (Int32.toNatClampNeg (s 1 / 24))) ) gX9_passNoon_X3_grow rfl ⟨rfl, rfl⟩ (by decide +kernel) ⟨Nat.le_of_ble_eq_true rfl, Nat.le_of_ble_eq_true rfl⟩ rfl hl.1 rfl (Nat.le_of_ble_eq_true rfl) dX9_passNoon_22 ⟨Nat.zero_le _, Nat.zero_le _⟩ (rfl) (fun H locs hG hL => ?_)
  have hG : gW D Hb lv ad (kJ ce0 ad K.2.2.1 cI cB cO cR s (pnG i s r)) H := hG
  refine lv_aload_n hx hb dX9_passNoon_25 rfl (lv_at hl 3 rfl) ?_
  refine k_callV (n := 0) (As := []) (rest := []) (st1 := .int (pnV i s r) :: []) (k := 1000 + i) (ci := 4) S hG hL (hlv.hv hi) (kJ_hv hi9) rfl (c_X3_isRipe s (pnG i s r) hlv i hi hi9  ) gX9_passNoon_X3_isRipe rfl ⟨rfl, rfl⟩ (by decide +kernel) ⟨Nat.le_of_ble_eq_true rfl, Nat.le_of_ble_eq_true rfl⟩ rfl hl.1 rfl (Nat.le_of_ble_eq_true rfl) dX9_passNoon_26 ⟨Nat.zero_le _, Nat.zero_le _⟩ (rfl) (fun H locs hG hL => ?_)
  refine lv_if_eq (tgt := 73) hx hb dX9_passNoon_29 (by decide) (fun c29 => ?_) (fun c29 => ?_)
  ·
    exact g_vret S.1 hr hlocks hG hL rfl (congr (congrArg (kJ ce0 ad K.2.2.1 cI cB cO cR) (by rfl)) (by rfl)) dX9_passNoon_73
  ·
    refine lv_aload_n hx hb dX9_passNoon_32 rfl (lv_at hl 1 rfl) ?_
    refine k_ga (C := RX9) (T := TX9) (N := 14) (ci := 10) (v := .ref (ad 106)) S hG (fun w h => List.mem_cons_of_mem _ (List.mem_append_left _ (List.mem_append_left _ (List.mem_append_left _ (List.mem_append_left _ (List.mem_append_right _ h)))))) 100 (hlv.f (by decide) (by decide)) rfl rfl 5 (by decide) rfl (hts (.fieldLink RX9 44 "SwarmLine" "swarms" "Ljava/util/ArrayList;") (by decide +kernel)) rfl dX9_passNoon_33 ?_
    refine k_callV (n := 0) (As := []) (rest := []) (st1 := .int (s 14) :: []) (k := 106) (ci := 0) S hG hL (hlv.f (by decide) (by decide)) rfl rfl (c_size1 s (pnG i s r) hlv   ) gX9_passNoon_Jx4a65c_size_8abf5 rfl ⟨rfl, rfl⟩ (by decide +kernel) ⟨Nat.le_of_ble_eq_true rfl, Nat.le_of_ble_eq_true rfl⟩ rfl hl.1 rfl (Nat.le_of_ble_eq_true rfl) dX9_passNoon_36 ⟨Nat.zero_le _, Nat.zero_le _⟩ (rfl) (fun H locs hG hL => ?_)
    refine lv_bipush (v := 60) hx hb dX9_passNoon_39 (by decide) ?_
    refine lv_icmp_ge (tgt := 73) hx hb dX9_passNoon_41 (by decide) (fun c41 => ?_) (fun c41 => absurd c41 (fun z9 => hno ⟨c29, by { rw [t_lt]; rw [t_le] at z9; omega }⟩))
    exact g_vret S.1 hr hlocks hG hL rfl (congr (congrArg (kJ ce0 ad K.2.2.1 cI cB cO cR) (by rfl)) (by rfl)) dX9_passNoon_73

set_option maxHeartbeats 1600000 in
set_option maxRecDepth 100000 in
theorem c_X9_passNoon_yes {l : Launch} {D : va_G} {cI cZ cB cO cR cJ : ClassId} {Hb : Heap} {K : kTx} {l0 : Nat → Prop} {ad : Nat → Nat} {ce0 : Nat → va_E} (s : Nat → Int32) (r : Nat → Nat → Int32) (x : Int32) (i : Nat) (hi : i < (s 6).toNatClampNeg) (hi9 : i < 1000) (ex : x = nI i) (h0 : 0 ≤ (s 6).toInt) (h1 : (s 6).toInt ≤ 60) (hw0 : 0 ≤ (s 1).toInt) (hw1 : (s 1).toInt ≤ 743) (hY : pnY i s r) (hcB : cBd s) : Met l yX9_passNoon wsX9_passNoon { frames := 7, cells := 2, slots := 84, locals := 180 } (va_Pc [.ref (ad 100), .int x, .ref (ad (1000 + i))] (kP D (tyL cI cZ cB cO cR cJ) Hb K (lvC l0 s) ad (kJ ce0 ad K.2.2.1 cI cB cO cR s r))) (mQ D Hb l0 ad (lvA l0) none ce0 K.2.2.1 cI cB cO cR (pnS s) (pnR x i s r)) 2 84 (gA Hb) := by
  refine Met.ofW (cc := cX9_passNoon) (maxL := 4) (ret := none) (by decide) rfl ?_
  intro p0 e0 s0 m0 args below meth c0 s₁ B hml hv
  obtain ⟨rfl, hG, hK, hE⟩ := hv
  have hx := B.exec
  have hb := B.bytes
  have hr := B.returns
  have hts := atoms_spec (ws := wsX9_passNoon) B.pre
  have hown : s0.vm.findClass RX9 = some m0.cls := findClass_of_methodNamed B.named
  have hlocks := B.notSynchronized
  have S : kX p0 m0 c0 cX9_passNoon 4 s0 _ wsX9_passNoon RX9 D (tyL cI cZ cB cO cR cJ) Hb K := ⟨⟨hx, hb, hml, hown, hts⟩, hK, hE⟩
  have hL : gL Hb [] := gL.nil
  have hH := hG.2.2.2.2
  have hl := lv_entry ([.ref (ad 100), .int x, .ref (ad (1000 + i))]) (n := 4) (Nat.le_of_ble_eq_true rfl)
  rw [lg_entry_eq]
  generalize (lg_sl ([.ref (ad 100), .int x, .ref (ad (1000 + i))]) ++ List.replicate (4 - (lg_sl ([.ref (ad 100), .int x, .ref (ad (1000 + i))])).length) Slot.unset).toArray = ls at hl ⊢
  have hl : lv_has ls 4 [(0, .ref (ad 100)), (1, .int x), (2, .ref (ad (1000 + i)))] := hl
  have hlv : kL (lvC l0 s) s := lvC_L
  have hi60 : i < 60 := by { have q := t_ix h0; omega }
  have hq := hcB.n
  refine lv_aload_n hx hb dX9_passNoon_0 rfl (lv_at hl 0 rfl) ?_
  refine k_callV (n := 0) (As := []) (rest := []) (st1 := .int (s 1 / 24) :: []) (k := 100) (ci := 10) S hG hL (hlv.f (by decide) (by decide)) rfl rfl (c_X9_today s r hlv   ) gX9_passNoon_X9_today rfl ⟨rfl, rfl⟩ (by decide +kernel) ⟨Nat.le_of_ble_eq_true rfl, Nat.le_of_ble_eq_true rfl⟩ rfl hl.1 rfl (Nat.le_of_ble_eq_true rfl) dX9_passNoon_1 ⟨Nat.le_of_ble_eq_true rfl, Nat.le_of_ble_eq_true rfl⟩ (rfl) (fun H locs hG hL => ?_)
  refine lv_istore_n (lv' := [(3, .int (s 1 / 24)), (0, .ref (ad 100)), (1, .int x), (2, .ref (ad (1000 + i)))]) hx hb dX9_passNoon_4 rfl hl (by decide) rfl (fun ls hl => ?_)
  refine lv_aload_n hx hb dX9_passNoon_5 rfl (lv_at hl 3 rfl) ?_
  refine lv_aload_n hx hb dX9_passNoon_6 rfl (lv_at hl 1 rfl) ?_
  refine k_ga (C := RX9) (T := TX9) (N := 14) (ci := 10) (v := .ref (ad 103)) S hG (fun w h => List.mem_cons_of_mem _ (List.mem_append_left _ (List.mem_append_left _ (List.mem_append_left _ (List.mem_append_left _ (List.mem_append_right _ h)))))) 100 (hlv.f (by decide) (by decide)) rfl rfl 2 (by decide) rfl (hts (.fieldLink RX9 26 "SwarmLine" "sky" "LSwarmLine$Sky;") (by decide +kernel)) rfl dX9_passNoon_7 ?_
  refine lv_iload_n hx hb dX9_passNoon_10 rfl (lv_at hl 0 rfl) ?_
  refine k_callV (n := 1) (As := [.int (s 1 / 24)]) (rest := [.ref (ad (1000 + i))]) (st1 := .int (r 3 (Int32.toNatClampNeg (s 1 / 24))) :: [.ref (ad (1000 + i))]) (k := 103) (ci := 6) S hG hL (hlv.f (by decide) (by decide)) rfl rfl (c_X5_bloomOf s r hlv  (s 1 / 24) (day_0 hw0)) gX9_passNoon_X5_bloomOf rfl ⟨rfl, rfl⟩ (by decide +kernel) ⟨Nat.le_of_ble_eq_true rfl, Nat.le_of_ble_eq_true rfl⟩ rfl hl.1 rfl (Nat.le_of_ble_eq_true rfl) dX9_passNoon_11 ⟨Nat.le_of_ble_eq_true rfl, Nat.le_of_ble_eq_true rfl⟩ (by rw [cap_day hw0 hw1]; rfl) (fun H locs hG hL => ?_)
  refine lv_aload_n hx hb dX9_passNoon_14 rfl (lv_at hl 1 rfl) ?_
  refine k_ga (C := RX9) (T := TX9) (N := 14) (ci := 10) (v := .ref (ad 103)) S hG (fun w h => List.mem_cons_of_mem _ (List.mem_append_left _ (List.mem_append_left _ (List.mem_append_left _ (List.mem_append_left _ (List.mem_append_right _ h)))))) 100 (hlv.f (by decide) (by decide)) rfl rfl 2 (by decide) rfl (hts (.fieldLink RX9 26 "SwarmLine" "sky" "LSwarmLine$Sky;") (by decide +kernel)) rfl dX9_passNoon_15 ?_
  refine lv_iload_n hx hb dX9_passNoon_18 rfl (lv_at hl 0 rfl) ?_
  refine k_callV (n := 1) (As := [.int (s 1 / 24)]) (rest := [.int (r 3 (Int32.toNatClampNeg (s 1 / 24))), .ref (ad (1000 + i))]) (st1 := .int (r 2 (Int32.toNatClampNeg (s 1 / 24))) :: [.int (r 3 (Int32.toNatClampNeg (s 1 / 24))), .ref (ad (1000 + i))]) (k := 103) (ci := 6) S hG hL (hlv.f (by decide) (by decide)) rfl rfl (c_X5_warmthOf s r hlv  (s 1 / 24) (day_0 hw0)) gX9_passNoon_X5_warmthOf rfl ⟨rfl, rfl⟩ (by decide +kernel) ⟨Nat.le_of_ble_eq_true rfl, Nat.le_of_ble_eq_true rfl⟩ rfl hl.1 rfl (Nat.le_of_ble_eq_true rfl) dX9_passNoon_19 ⟨Nat.le_of_ble_eq_true rfl, Nat.le_of_ble_eq_true rfl⟩ (by rw [cap_day hw0 hw1]; rfl) (fun H locs hG hL => ?_)
  refine k_callV (n := 2) (As := [.int (r 3 (Int32.toNatClampNeg (s 1 / 24))), .int (r 2 (Int32.toNatClampNeg (s 1 / 24)))]) (rest := []) (st1 := []) (k := 1000 + i) (ci := 4) S hG hL (hlv.hv hi) (kJ_hv hi9) rfl (c_X3_grow s r hlv i hi hi9 (r 3 (Int32.toNatClampNeg (s 1 / 24))) (r 2 (Int32.toNatClampNeg (s 1 / 24))) ) gX9_passNoon_X3_grow rfl ⟨rfl, rfl⟩ (by decide +kernel) ⟨Nat.le_of_ble_eq_true rfl, Nat.le_of_ble_eq_true rfl⟩ rfl hl.1 rfl (Nat.le_of_ble_eq_true rfl) dX9_passNoon_22 ⟨Nat.le_of_ble_eq_true rfl, Nat.le_of_ble_eq_true rfl⟩ (rfl) (fun H locs hG hL => ?_)
  have hG : gW D Hb (lvC l0 s) ad (kJ ce0 ad K.2.2.1 cI cB cO cR s (pnG i s r)) H := hG
  refine lv_aload_n hx hb dX9_passNoon_25 rfl (lv_at hl 3 rfl) ?_
  refine k_callV (n := 0) (As := []) (rest := []) (st1 := .int (pnV i s r) :: []) (k := 1000 + i) (ci := 4) S hG hL (hlv.hv hi) (kJ_hv hi9) rfl (c_X3_isRipe s (pnG i s r) hlv i hi hi9  ) gX9_passNoon_X3_isRipe rfl ⟨rfl, rfl⟩ (by decide +kernel) ⟨Nat.le_of_ble_eq_true rfl, Nat.le_of_ble_eq_true rfl⟩ rfl hl.1 rfl (Nat.le_of_ble_eq_true rfl) dX9_passNoon_26 ⟨Nat.le_of_ble_eq_true rfl, Nat.le_of_ble_eq_true rfl⟩ (rfl) (fun H locs hG hL => ?_)
  refine lv_if_eq (tgt := 73) hx hb dX9_passNoon_29 (by decide) (fun c29 => absurd c29 (hY.1)) (fun c29 => ?_)
  refine lv_aload_n hx hb dX9_passNoon_32 rfl (lv_at hl 1 rfl) ?_
  refine k_ga (C := RX9) (T := TX9) (N := 14) (ci := 10) (v := .ref (ad 106)) S hG (fun w h => List.mem_cons_of_mem _ (List.mem_append_left _ (List.mem_append_left _ (List.mem_append_left _ (List.mem_append_left _ (List.mem_append_right _ h)))))) 100 (hlv.f (by decide) (by decide)) rfl rfl 5 (by decide) rfl (hts (.fieldLink RX9 44 "SwarmLine" "swarms" "Ljava/util/ArrayList;") (by decide +kernel)) rfl dX9_passNoon_33 ?_
  refine k_callV (n := 0) (As := []) (rest := []) (st1 := .int (s 14) :: []) (k := 106) (ci := 0) S hG hL (hlv.f (by decide) (by decide)) rfl rfl (c_size1 s (pnG i s r) hlv   ) gX9_passNoon_Jx4a65c_size_8abf5 rfl ⟨rfl, rfl⟩ (by decide +kernel) ⟨Nat.le_of_ble_eq_true rfl, Nat.le_of_ble_eq_true rfl⟩ rfl hl.1 rfl (Nat.le_of_ble_eq_true rfl) dX9_passNoon_36 ⟨Nat.le_of_ble_eq_true rfl, Nat.le_of_ble_eq_true rfl⟩ (rfl) (fun H locs hG hL => ?_)
  refine lv_bipush (v := 60) hx hb dX9_passNoon_39 (by decide) ?_
  refine lv_icmp_ge (tgt := 73) hx hb dX9_passNoon_41 (by decide) (fun c41 => absurd c41 (by { have q := hY.2; rw [t_lt] at q; rw [t_le]; omega })) (fun c41 => ?_)
  refine lv_aload_n hx hb dX9_passNoon_44 rfl (lv_at hl 1 rfl) ?_
  refine k_ga (C := RX9) (T := TX9) (N := 14) (ci := 10) (v := .ref (ad 106)) S hG (fun w h => List.mem_cons_of_mem _ (List.mem_append_left _ (List.mem_append_left _ (List.mem_append_left _ (List.mem_append_left _ (List.mem_append_right _ h)))))) 100 (hlv.f (by decide) (by decide)) rfl rfl 5 (by decide) rfl (hts (.fieldLink RX9 44 "SwarmLine" "swarms" "Ljava/util/ArrayList;") (by decide +kernel)) rfl dX9_passNoon_45 ?_
  refine z_new (C := RX6) (T := TX6) (N := 11) (ci := 7) (fs := [.int 0, .int 0, .int 0, .int 0, .int 0, .int 0, .int 0, .int 0, .int 0, .int 0, .int 0]) S.1 hK hG (fun w h => List.mem_cons_of_mem _ (List.mem_append_left _ (List.mem_append_left _ (List.mem_append_left _ (List.mem_append_right _ h))))) tyX6 tyX6_ok (hts (.classLink RX9 292 "SwarmLine$Swarm") (by decide +kernel)) (hts (.instantiable "SwarmLine$Swarm" 11) (by decide +kernel)) (hts (.initialized "SwarmLine$Swarm") (by decide +kernel)) rfl (2000 + (s 14).toNatClampNeg) (lvC_nsw hcB) (by decide +kernel) (by show _ ≤ 2; omega) (by show _ ≤ 84; omega) dX9_passNoon_48 (fun ad1 H had1 hG => ?_)
  have hag : ∀ j, kLv (s 6).toNatClampNeg (s 14).toNatClampNeg (s 26).toNatClampNeg (s 39).toNatClampNeg j → ad1 j = ad j := fun j hj => had1 j (Or.inr hj)
  have hG : gW D Hb (fun j => lvC l0 s j ∨ j = 2000 + (s 14).toNatClampNeg) ad1 (kJ ce0 ad1 K.2.2.1 cI cB cO cR s (zsw (pnG i s r) (s 14).toNatClampNeg)) H := by { rw [zsw_e (by omega), ← kJ_ad hag] at hG; exact hG }
  have hlv : kL (fun j => lvC l0 s j ∨ j = 2000 + (s 14).toNatClampNeg) s := fun k h => Or.inl (Or.inr h)
  have hl : lv_has ls 4 [(3, .int (s 1 / 24)), (0, .ref (ad1 100)), (1, .int x), (2, .ref (ad1 (1000 + i)))] := by { rw [had1 100 (Or.inr (Or.inl ⟨by decide, by decide⟩)), had1 (1000 + i) (lvC_L.hv (hi))]; exact hl }
  rw [show ad 106 = ad1 106 from (had1 106 (Or.inr (Or.inl ⟨by decide, by decide⟩))).symm]
  refine lv_dup hx hb dX9_passNoon_51 rfl ?_
  refine lv_iload_n hx hb dX9_passNoon_52 rfl (lv_at hl 2 rfl) ?_
  refine lv_aload_n hx hb dX9_passNoon_53 rfl (lv_at hl 3 rfl) ?_
  refine lv_aload_n hx hb dX9_passNoon_54 rfl (lv_at hl 1 rfl) ?_
  refine k_gi (C := RX9) (T := TX9) (N := 14) (ci := 10) (v := s 1) S hG (fun w h => List.mem_cons_of_mem _ (List.mem_append_left _ (List.mem_append_left _ (List.mem_append_left _ (List.mem_append_left _ (List.mem_append_right _ h)))))) 100 (hlv.f (by decide) (by decide)) rfl rfl 12 (by decide) rfl (hts (.fieldLink RX9 71 "SwarmLine" "now" "I") (by decide +kernel)) rfl (rfl) dX9_passNoon_55 ?_
  refine k_callI (ws' := []) (n := 3) (As := [.int x, .ref (ad1 (1000 + i)), .int (s 1)]) (rest := [.ref (ad1 (2000 + (s 14).toNatClampNeg)), .ref (ad1 106)]) (st1 := [.ref (ad1 (2000 + (s 14).toNatClampNeg)), .ref (ad1 106)]) (k := 2000 + (s 14).toNatClampNeg) (mc := 0) (ms := 0) S hG hL (c_X6_init s (zsw (pnG i s r) (s 14).toNatClampNeg) hlv ((s 14).toNatClampNeg) (Or.inr rfl) (by omega) x i hi hi9 (s 1)) (cwI 3 S.1.2.2.2.2 gX9_passNoon_X6_init rfl rfl rfl (hts (.initialized RX6) (by decide +kernel)) (hts (.methodLink RX9 399 yX6_init) (by decide +kernel)) (hts (.instanceMethod yX6_init) (by decide +kernel)) rfl (by decide +kernel) ⟨Nat.le_of_ble_eq_true rfl, Nat.le_of_ble_eq_true rfl⟩) rfl hl.1 rfl (Nat.le_of_ble_eq_true rfl) dX9_passNoon_58 (by constructor <;> (show _ ≤ _; first | exact Nat.le_of_ble_eq_true rfl | (show _ ≤ 2; omega) | (show _ ≤ 84; omega))) rfl (fun H locs hG hL => ?_)
  refine z_add1 (rest := []) S s (up2 (up2 (up2 (up2 (up2 (up2 (up2 (up2 (up2 (up2 (up2 (zsw (pnG i s r) (s 14).toNatClampNeg) 22 ((s 14).toNatClampNeg) 60) 15 ((s 14).toNatClampNeg) 0) 23 ((s 14).toNatClampNeg) (-1)) 25 ((s 14).toNatClampNeg) (-1)) 24 ((s 14).toNatClampNeg) (-1)) 16 ((s 14).toNatClampNeg) x) 17 ((s 14).toNatClampNeg) (((zsw (pnG i s r) (s 14).toNatClampNeg) 9 i) / 2)) 18 ((s 14).toNatClampNeg) (kDr ((zsw (pnG i s r) (s 14).toNatClampNeg) 7 i) (((zsw (pnG i s r) (s 14).toNatClampNeg) 9 i) / 1000 + ((s 1) / 24)))) 19 ((s 14).toNatClampNeg) (kDr ((zsw (pnG i s r) (s 14).toNatClampNeg) 8 i) (((zsw (pnG i s r) (s 14).toNatClampNeg) 9 i) / 100 + ((s 1) / 24)))) 20 ((s 14).toNatClampNeg) ((((zsw (pnG i s r) (s 14).toNatClampNeg) 9 i) / 10) - (((zsw (pnG i s r) (s 14).toNatClampNeg) 9 i) / 10) / 9 * 9 + 1)) 21 ((s 14).toNatClampNeg) (s 1)) hcB (lt60 hY.2) hG hL gX9_passNoon_Jx4a65c_add_9ea2d ⟨Nat.le_of_ble_eq_true rfl, Nat.le_of_ble_eq_true rfl⟩ hl.1 (Nat.le_of_ble_eq_true rfl) dX9_passNoon_61 (by constructor <;> (show _ ≤ _; first | (show _ ≤ 2; omega) | (show _ ≤ 84; omega))) (fun ad2 H locs had2 hG hL => ?_)
  have hlv : kL (lvC l0 (upd (upd s 122 ((s 122) + 1)) 14 ((s 14) + 1))) (upd (upd s 122 ((s 122) + 1)) 14 ((s 14) + 1)) := fun k h => Or.inr h
  have hl : lv_has ls 4 [(3, .int (s 1 / 24)), (0, .ref (ad2 100)), (1, .int x), (2, .ref (ad2 (1000 + i)))] := by { rw [had2 100 (Or.inl (Or.inr (Or.inl ⟨by decide, by decide⟩))), had2 (1000 + i) (Or.inl (lvC_L.hv (hi)))]; exact hl }
  refine lv_pop hx hb dX9_passNoon_64 rfl ?_
  refine lv_aload_n hx hb dX9_passNoon_65 rfl (lv_at hl 3 rfl) ?_
  refine lv_aload_n hx hb dX9_passNoon_66 rfl (lv_at hl 1 rfl) ?_
  refine k_gi (C := RX9) (T := TX9) (N := 14) (ci := 10) (v := s 1) S hG (fun w h => List.mem_cons_of_mem _ (List.mem_append_left _ (List.mem_append_left _ (List.mem_append_left _ (List.mem_append_left _ (List.mem_append_right _ h)))))) 100 (hlv.f (by decide) (by decide)) rfl rfl 12 (by decide) rfl (hts (.fieldLink RX9 71 "SwarmLine" "now" "I") (by decide +kernel)) rfl (rfl) dX9_passNoon_67 ?_
  refine k_callV (n := 1) (As := [.int (s 1)]) (rest := []) (st1 := []) (k := 1000 + i) (ci := 4) S hG hL (hlv.hv hi) (kJ_hv hi9) rfl (c_X3_loseHalf (upd (upd s 122 ((s 122) + 1)) 14 ((s 14) + 1)) (up2 (up2 (up2 (up2 (up2 (up2 (up2 (up2 (up2 (up2 (up2 (zsw (pnG i s r) (s 14).toNatClampNeg) 22 ((s 14).toNatClampNeg) 60) 15 ((s 14).toNatClampNeg) 0) 23 ((s 14).toNatClampNeg) (-1)) 25 ((s 14).toNatClampNeg) (-1)) 24 ((s 14).toNatClampNeg) (-1)) 16 ((s 14).toNatClampNeg) x) 17 ((s 14).toNatClampNeg) (((zsw (pnG i s r) (s 14).toNatClampNeg) 9 i) / 2)) 18 ((s 14).toNatClampNeg) (kDr ((zsw (pnG i s r) (s 14).toNatClampNeg) 7 i) (((zsw (pnG i s r) (s 14).toNatClampNeg) 9 i) / 1000 + ((s 1) / 24)))) 19 ((s 14).toNatClampNeg) (kDr ((zsw (pnG i s r) (s 14).toNatClampNeg) 8 i) (((zsw (pnG i s r) (s 14).toNatClampNeg) 9 i) / 100 + ((s 1) / 24)))) 20 ((s 14).toNatClampNeg) ((((zsw (pnG i s r) (s 14).toNatClampNeg) 9 i) / 10) - (((zsw (pnG i s r) (s 14).toNatClampNeg) 9 i) / 10) / 9 * 9 + 1)) 21 ((s 14).toNatClampNeg) (s 1)) hlv i hi hi9 (s 1) ) gX9_passNoon_X3_loseHalf rfl ⟨rfl, rfl⟩ (by decide +kernel) ⟨Nat.le_of_ble_eq_true rfl, Nat.le_of_ble_eq_true rfl⟩ rfl hl.1 rfl (Nat.le_of_ble_eq_true rfl) dX9_passNoon_70 ⟨Nat.le_of_ble_eq_true rfl, Nat.le_of_ble_eq_true rfl⟩ (rfl) (fun H locs hG hL => ?_)
  exact mk_vret S.1 hr hlocks (fun j hj => (had2 j (Or.inl (lvC_h hj))).trans (had1 j (lvC_h hj))) hG hL rfl (by rfl) (by rfl) dX9_passNoon_73 (by show _ ≤ 2; omega) (by show _ ≤ 84; omega)
