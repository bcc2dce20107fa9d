/-! a hive, a keeper -/
def xHi (x y b ro mk : Int32) (s : Nat → Int32) : Option String := if kPl x y = 0 then some "java/lang/IllegalArgumentException" else if fIn b 0 100000 = 0 then some "java/lang/IllegalArgumentException" else if fIn ro 1000 100000 = 0 then some "java/lang/IllegalArgumentException" else if fIn mk 0 7 = 0 then some "java/lang/IllegalArgumentException" else if s 6 < 20 then none else some "java/lang/UnsupportedOperationException"
theorem xHi_ok {x y b ro mk : Int32} {s : Nat → Int32} (h : xHi x y b ro mk s = none) : ¬ kPl x y = 0 ∧ ¬ fIn b 0 100000 = 0 ∧ ¬ fIn ro 1000 100000 = 0 ∧ ¬ fIn mk 0 7 = 0 ∧ s 6 < 20 := by
  unfold xHi at h
  by_cases c0 : kPl x y = 0
  · rw [if_pos c0] at h; cases h
  rw [if_neg c0] at h
  by_cases c1 : fIn b 0 100000 = 0
  · rw [if_pos c1] at h; cases h
  rw [if_neg c1] at h
  by_cases c2 : fIn ro 1000 100000 = 0
  · rw [if_pos c2] at h; cases h
  rw [if_neg c2] at h
  by_cases c3 : fIn mk 0 7 = 0
  · rw [if_pos c3] at h; cases h
  rw [if_neg c3] at h
  by_cases c9 : s 6 < 20
  · exact ⟨c0, c1, c2, c3, c9⟩
  · rw [if_neg c9] at h; cases h
def xKe (x y b la pa fr to : Int32) (s : Nat → Int32) : Option String := if kPl x y = 0 then some "java/lang/IllegalArgumentException" else if fIn b 0 20 = 0 then some "java/lang/IllegalArgumentException" else if fIn la 0 9 = 0 then some "java/lang/IllegalArgumentException" else if fIn pa 1 10 = 0 then some "java/lang/IllegalArgumentException" else if fIn fr 0 23 = 0 then some "java/lang/IllegalArgumentException" else if fIn to 0 23 = 0 then some "java/lang/IllegalArgumentException" else if s 26 < 12 then none else some "java/lang/UnsupportedOperationException"
theorem xKe_ok {x y b la pa fr to : Int32} {s : Nat → Int32} (h : xKe x y b la pa fr to s = none) : ¬ kPl x y = 0 ∧ ¬ fIn b 0 20 = 0 ∧ ¬ fIn la 0 9 = 0 ∧ ¬ fIn pa 1 10 = 0 ∧ ¬ fIn fr 0 23 = 0 ∧ ¬ fIn to 0 23 = 0 ∧ s 26 < 12 := by
  unfold xKe at h
  by_cases c0 : kPl x y = 0
  · rw [if_pos c0] at h; cases h
  rw [if_neg c0] at h
  by_cases c1 : fIn b 0 20 = 0
  · rw [if_pos c1] at h; cases h
  rw [if_neg c1] at h
  by_cases c2 : fIn la 0 9 = 0
  · rw [if_pos c2] at h; cases h
  rw [if_neg c2] at h
  by_cases c3 : fIn pa 1 10 = 0
  · rw [if_pos c3] at h; cases h
  rw [if_neg c3] at h
  by_cases c4 : fIn fr 0 23 = 0
  · rw [if_pos c4] at h; cases h
  rw [if_neg c4] at h
  by_cases c5 : fIn to 0 23 = 0
  · rw [if_pos c5] at h; cases h
  rw [if_neg c5] at h
  by_cases c9 : s 26 < 12
  · exact ⟨c0, c1, c2, c3, c4, c5, c9⟩
  · rw [if_neg c9] at h; cases h
theorem lt20 {x : Int32} (h : x < 20) : x.toInt < 60 := by
  rw [t_lt] at h
  have z : (20 : Int32).toInt = 20 := rfl
  omega
theorem lt12 {x : Int32} (h : x < 12) : x.toInt < 60 := by
  rw [t_lt] at h
  have z : (12 : Int32).toInt = 12 := rfl
  omega
theorem lt60 {x : Int32} (h : x < 60) : x.toInt < 60 := by
  rw [t_lt] at h
  have z : (60 : Int32).toInt = 60 := rfl
  omega

set_option maxHeartbeats 1600000 in
set_option maxRecDepth 100000 in
theorem c_X9_hive_bad {l : Launch} {D : va_G} {cI cZ cB cO cR cJ : ClassId} {Hb : Heap} {K : kTx} {lv : Nat → Prop} {ad : Nat → Nat} {ce0 : Nat → va_E} (hst : l.stackTraces = false) (s : Nat → Int32) (r : Nat → Nat → Int32) (hlv : kL lv s) (x : Int32) (y : Int32) (b : Int32) (ro : Int32) (mk : Int32) (hne : ¬ xHi x y b ro mk s = none) : xMet l D cI cZ cB cO cR cJ Hb K lv ad ce0 yX9_hive wsX9_hive 6 92 1 [.ref (ad 100), .int x, .int y, .int b, .int ro, .int mk] s r (xHi x y b ro mk s) (some (.int (0))) s r s r := by
  refine vx_ofW (cc := cX9_hive) (maxL := 6) (ret := (some .int)) (by decide) rfl ?_
  intro p0 e0 s0 m0 args below meth c0 s₁ B hml hout hv
  obtain ⟨rfl, hG, hK, hE⟩ := hv
  have hx := B.exec
  have hb := B.bytes
  have hr := B.returns
  have hts := atoms_spec (ws := wsX9_hive) B.pre
  have hown : s0.vm.findClass RX9 = some m0.cls := findClass_of_methodNamed B.named
  have hlocks := B.notSynchronized
  have S : kX p0 m0 c0 cX9_hive 6 s0 _ wsX9_hive RX9 D (tyL cI cZ cB cO cR cJ) Hb K := ⟨⟨hx, hb, hml, hown, hts⟩, hK, hE⟩
  have hL : gL Hb [] := gL.nil
  have hH := hG.2.2.2.2
  have hl := lv_entry ([.ref (ad 100), .int x, .int y, .int b, .int ro, .int mk]) (n := 6) (Nat.le_of_ble_eq_true rfl)
  rw [lg_entry_eq]
  generalize (lg_sl ([.ref (ad 100), .int x, .int y, .int b, .int ro, .int mk]) ++ List.replicate (6 - (lg_sl ([.ref (ad 100), .int x, .int y, .int b, .int ro, .int mk])).length) Slot.unset).toArray = ls at hl ⊢
  have hl : lv_has ls 6 [(0, .ref (ad 100)), (1, .int x), (2, .int y), (3, .int b), (4, .int ro), (5, .int mk)] := hl
  refine lv_iload_n hx hb dX9_hive_0 rfl (lv_at hl 1 rfl) ?_
  refine lv_iload_n hx hb dX9_hive_1 rfl (lv_at hl 2 rfl) ?_
  refine m_callP (n := 2) (As := [.int x, .int y]) (rest := []) (st1 := .int (kPl x y) :: []) S.1 (c_X9_isPlace x y) gX9_hive_X9_isPlace rfl (by decide +kernel) ⟨Nat.le_of_ble_eq_true rfl, Nat.le_of_ble_eq_true rfl⟩ rfl hl.1 rfl (Nat.le_of_ble_eq_true rfl) dX9_hive_2 ⟨Nat.le_of_ble_eq_true rfl, Nat.le_of_ble_eq_true rfl⟩ (rfl) ?_
  refine lv_if_eq (tgt := 42) hx hb dX9_hive_5 (by decide) (fun c5 => ?_) (fun c5 => ?_)
  ·
    exact k_throw (cls := "java/lang/IllegalArgumentException") (text := "no such hive can be") (i := 4) S hst hH hG hL (by decide +kernel) (hts (.classLink RX9 108 "java/lang/IllegalArgumentException") (by decide +kernel)) (hts (.initialized "java/lang/IllegalArgumentException") (by decide +kernel)) rfl (fun w h => List.mem_cons_of_mem _ (List.mem_append_left _ (List.mem_append_right _ h))) (by decide +kernel) (by decide +kernel) (by decide +kernel) hl.1 dX9_hive_42 dX9_hive_45 dX9_hive_46 dX9_hive_48 dX9_hive_51 hout (Nat.le_of_ble_eq_true rfl) (Nat.le_of_ble_eq_true rfl) (Nat.le_of_ble_eq_true rfl) (Nat.le_of_ble_eq_true rfl) hlocks (by simp only [xHi, eq_true c5, if_true, if_false]) (congr (congrArg (kJ ce0 ad K.2.2.1 cI cB cO cR) (by rfl)) (by rfl)) (Nat.le_of_ble_eq_true rfl) (Nat.le_of_ble_eq_true rfl)
  ·
    refine lv_iload_n hx hb dX9_hive_8 rfl (lv_at hl 3 rfl) ?_
    refine lv_iconst (v := 0) hx hb dX9_hive_9 (by decide) ?_
    refine lv_ldc (v := 100000) hx hb hown (hts (.constant RX9 140 100000) (by decide +kernel)) dX9_hive_10 ?_
    refine m_callP (n := 3) (As := [.int b, .int 0, .int 100000]) (rest := []) (st1 := .int (fIn b 0 100000) :: []) S.1 (c_X9_isWithin b 0 100000) gX9_hive_X9_isWithin rfl (by decide +kernel) ⟨Nat.le_of_ble_eq_true rfl, Nat.le_of_ble_eq_true rfl⟩ rfl hl.1 rfl (Nat.le_of_ble_eq_true rfl) dX9_hive_12 ⟨Nat.le_of_ble_eq_true rfl, Nat.le_of_ble_eq_true rfl⟩ (rfl) ?_
    refine lv_if_eq (tgt := 42) hx hb dX9_hive_15 (by decide) (fun c15 => ?_) (fun c15 => ?_)
    ·
      exact k_throw (cls := "java/lang/IllegalArgumentException") (text := "no such hive can be") (i := 4) S hst hH hG hL (by decide +kernel) (hts (.classLink RX9 108 "java/lang/IllegalArgumentException") (by decide +kernel)) (hts (.initialized "java/lang/IllegalArgumentException") (by decide +kernel)) rfl (fun w h => List.mem_cons_of_mem _ (List.mem_append_left _ (List.mem_append_right _ h))) (by decide +kernel) (by decide +kernel) (by decide +kernel) hl.1 dX9_hive_42 dX9_hive_45 dX9_hive_46 dX9_hive_48 dX9_hive_51 hout (Nat.le_of_ble_eq_true rfl) (Nat.le_of_ble_eq_true rfl) (Nat.le_of_ble_eq_true rfl) (Nat.le_of_ble_eq_true rfl) hlocks (by simp only [xHi, eq_false c5, eq_true c15, if_true, if_false]) (congr (congrArg (kJ ce0 ad K.2.2.1 cI cB cO cR) (by rfl)) (by rfl)) (Nat.le_of_ble_eq_true rfl) (Nat.le_of_ble_eq_true rfl)
    ·
      refine lv_iload hx hb dX9_hive_18 (lv_at hl 4 rfl) ?_
      refine lv_sipush (v := 1000) hx hb dX9_hive_20 (by decide) ?_
      refine lv_ldc (v := 100000) hx hb hown (hts (.constant RX9 140 100000) (by decide +kernel)) dX9_hive_23 ?_
      refine m_callP (n := 3) (As := [.int ro, .int 1000, .int 100000]) (rest := []) (st1 := .int (fIn ro 1000 100000) :: []) S.1 (c_X9_isWithin ro 1000 100000) gX9_hive_X9_isWithin rfl (by decide +kernel) ⟨Nat.le_of_ble_eq_true rfl, Nat.le_of_ble_eq_true rfl⟩ rfl hl.1 rfl (Nat.le_of_ble_eq_true rfl) dX9_hive_25 ⟨Nat.le_of_ble_eq_true rfl, Nat.le_of_ble_eq_true rfl⟩ (rfl) ?_
      refine lv_if_eq (tgt := 42) hx hb dX9_hive_28 (by decide) (fun c28 => ?_) (fun c28 => ?_)
      ·
        exact k_throw (cls := "java/lang/IllegalArgumentException") (text := "no such hive can be") (i := 4) S hst hH hG hL (by decide +kernel) (hts (.classLink RX9 108 "java/lang/IllegalArgumentException") (by decide +kernel)) (hts (.initialized "java/lang/IllegalArgumentException") (by decide +kernel)) rfl (fun w h => List.mem_cons_of_mem _ (List.mem_append_left _ (List.mem_append_right _ h))) (by decide +kernel) (by decide +kernel) (by decide +kernel) hl.1 dX9_hive_42 dX9_hive_45 dX9_hive_46 dX9_hive_48 dX9_hive_51 hout (Nat.le_of_ble_eq_true rfl) (Nat.le_of_ble_eq_true rfl) (Nat.le_of_ble_eq_true rfl) (Nat.le_of_ble_eq_true rfl) hlocks (by simp only [xHi, eq_false c5, eq_false c15, eq_true c28, if_true, if_false]) (congr (congrArg (kJ ce0 ad K.2.2.1 cI cB cO cR) (by rfl)) (by rfl)) (Nat.le_of_ble_eq_true rfl) (Nat.le_of_ble_eq_true rfl)
      ·
        refine lv_iload hx hb dX9_hive_31 (lv_at hl 5 rfl) ?_
        refine lv_iconst (v := 0) hx hb dX9_hive_33 (by decide) ?_
        refine lv_bipush (v := 7) hx hb dX9_hive_34 (by decide) ?_
        refine m_callP (n := 3) (As := [.int mk, .int 0, .int 7]) (rest := []) (st1 := .int (fIn mk 0 7) :: []) S.1 (c_X9_isWithin mk 0 7) gX9_hive_X9_isWithin rfl (by decide +kernel) ⟨Nat.le_of_ble_eq_true rfl, Nat.le_of_ble_eq_true rfl⟩ rfl hl.1 rfl (Nat.le_of_ble_eq_true rfl) dX9_hive_36 ⟨Nat.le_of_ble_eq_true rfl, Nat.le_of_ble_eq_true rfl⟩ (rfl) ?_
        refine lv_if_ne (tgt := 52) hx hb dX9_hive_39 (by decide) (fun c39 => ?_) (fun c39 => ?_)
        ·
          refine lv_aload_n hx hb dX9_hive_52 rfl (lv_at hl 0 rfl) ?_
          refine k_ga (C := RX9) (T := TX9) (N := 14) (ci := 10) (v := .ref (ad 105)) S hG (fun w h => List.mem_cons_of_mem _ (List.mem_append_left _ (List.mem_append_left _ (List.mem_append_left _ (List.mem_append_left _ (List.mem_append_right _ h)))))) 100 (hlv.f (by decide) (by decide)) rfl rfl 4 (by decide) rfl (hts (.fieldLink RX9 40 "SwarmLine" "hives" "Ljava/util/ArrayList;") (by decide +kernel)) rfl dX9_hive_53 ?_
          refine k_callV (n := 0) (As := []) (rest := []) (st1 := .int (s 6) :: []) (k := 105) (ci := 0) S hG hL (hlv.f (by decide) (by decide)) rfl rfl (c_size0 s r hlv   ) gX9_hive_Jx4a65c_size_8abf5 rfl ⟨rfl, rfl⟩ (by decide +kernel) ⟨Nat.le_of_ble_eq_true rfl, Nat.le_of_ble_eq_true rfl⟩ rfl hl.1 rfl (Nat.le_of_ble_eq_true rfl) dX9_hive_56 ⟨Nat.le_of_ble_eq_true rfl, Nat.le_of_ble_eq_true rfl⟩ (rfl) (fun H locs hG hL => ?_)
          refine lv_bipush (v := 20) hx hb dX9_hive_59 (by decide) ?_
          refine lv_icmp_lt (tgt := 74) hx hb dX9_hive_61 (by decide) (fun c61 => absurd c61 (fun z9 => hne (by simp only [xHi, eq_false c5, eq_false c15, eq_false c28, eq_false c39, eq_true z9, if_true, if_false]))) (fun c61 => ?_)
          exact k_throw (cls := "java/lang/UnsupportedOperationException") (text := "too many hives") (i := 5) S hst hH hG hL (by decide +kernel) (hts (.classLink RX9 146 "java/lang/UnsupportedOperationException") (by decide +kernel)) (hts (.initialized "java/lang/UnsupportedOperationException") (by decide +kernel)) rfl (fun w h => List.mem_cons_of_mem _ (List.mem_append_right _ h)) (by decide +kernel) (by decide +kernel) (by decide +kernel) hl.1 dX9_hive_64 dX9_hive_67 dX9_hive_68 dX9_hive_70 dX9_hive_73 hout (Nat.le_of_ble_eq_true rfl) (Nat.le_of_ble_eq_true rfl) (Nat.le_of_ble_eq_true rfl) (Nat.le_of_ble_eq_true rfl) hlocks (by simp only [xHi, eq_false c5, eq_false c15, eq_false c28, eq_false c39, eq_false c61, if_true, if_false]) (congr (congrArg (kJ ce0 ad K.2.2.1 cI cB cO cR) (by rfl)) (by rfl)) (Nat.le_of_ble_eq_true rfl) (Nat.le_of_ble_eq_true rfl)
        ·
          exact k_throw (cls := "java/lang/IllegalArgumentException") (text := "no such hive can be") (i := 4) S hst hH hG hL (by decide +kernel) (hts (.classLink RX9 108 "java/lang/IllegalArgumentException") (by decide +kernel)) (hts (.initialized "java/lang/IllegalArgumentException") (by decide +kernel)) rfl (fun w h => List.mem_cons_of_mem _ (List.mem_append_left _ (List.mem_append_right _ h))) (by decide +kernel) (by decide +kernel) (by decide +kernel) hl.1 dX9_hive_42 dX9_hive_45 dX9_hive_46 dX9_hive_48 dX9_hive_51 hout (Nat.le_of_ble_eq_true rfl) (Nat.le_of_ble_eq_true rfl) (Nat.le_of_ble_eq_true rfl) (Nat.le_of_ble_eq_true rfl) hlocks (by simp only [xHi, eq_false c5, eq_false c15, eq_false c28, eq_true c39, if_true, if_false]) (congr (congrArg (kJ ce0 ad K.2.2.1 cI cB cO cR) (by rfl)) (by rfl)) (Nat.le_of_ble_eq_true rfl) (Nat.le_of_ble_eq_true rfl)

set_option maxHeartbeats 1600000 in
set_option maxRecDepth 100000 in
theorem c_X9_hive_ok {l : Launch} {D : va_G} {cI cZ cB cO cR cJ : ClassId} {Hb : Heap} {K : kTx} {l0 : Nat → Prop} {ad : Nat → Nat} {ce0 : Nat → va_E} (s : Nat → Int32) (r : Nat → Nat → Int32) (x : Int32) (y : Int32) (b : Int32) (ro : Int32) (mk : Int32) (hok : xHi x y b ro mk s = none) (hcB : cBd s) : Met l yX9_hive wsX9_hive { frames := 7, cells := 2, slots := 90, locals := 180 } (va_Pc [.ref (ad 100), .int x, .int y, .int b, .int ro, .int mk] (kP D (tyL cI cZ cB cO cR cJ) Hb K (lvC l0 s) ad (kJ ce0 ad K.2.2.1 cI cB cO cR s r))) (mQ D Hb l0 ad (lvA l0) (some (.int (s 6 + 1 - 1))) ce0 K.2.2.1 cI cB cO cR (upd (upd s 121 (s 121 + 1)) 6 (s 6 + 1)) (up2 (up2 (up2 (up2 (up2 (up2 (up2 (zhv r ((s 6).toNatClampNeg)) 12 ((s 6).toNatClampNeg) 0) 13 ((s 6).toNatClampNeg) (-1)) 7 ((s 6).toNatClampNeg) x) 8 ((s 6).toNatClampNeg) y) 9 ((s 6).toNatClampNeg) b) 10 ((s 6).toNatClampNeg) ro) 11 ((s 6).toNatClampNeg) mk)) 2 90 (gA Hb) := by
  refine Met.ofW (cc := cX9_hive) (maxL := 6) (ret := (some .int)) (by decide) rfl ?_
  intro p0 e0 s0 m0 args below meth c0 s₁ B hml hv
  obtain ⟨rfl, hG, hK, hE⟩ := hv
  have hx := B.exec
  have hb := B.bytes
  have hr := B.returns
  have hts := atoms_spec (ws := wsX9_hive) B.pre
  have hown : s0.vm.findClass RX9 = some m0.cls := findClass_of_methodNamed B.named
  have hlocks := B.notSynchronized
  have S : kX p0 m0 c0 cX9_hive 6 s0 _ wsX9_hive RX9 D (tyL cI cZ cB cO cR cJ) Hb K := ⟨⟨hx, hb, hml, hown, hts⟩, hK, hE⟩
  have hL : gL Hb [] := gL.nil
  have hH := hG.2.2.2.2
  have hl := lv_entry ([.ref (ad 100), .int x, .int y, .int b, .int ro, .int mk]) (n := 6) (Nat.le_of_ble_eq_true rfl)
  rw [lg_entry_eq]
  generalize (lg_sl ([.ref (ad 100), .int x, .int y, .int b, .int ro, .int mk]) ++ List.replicate (6 - (lg_sl ([.ref (ad 100), .int x, .int y, .int b, .int ro, .int mk])).length) Slot.unset).toArray = ls at hl ⊢
  have hl : lv_has ls 6 [(0, .ref (ad 100)), (1, .int x), (2, .int y), (3, .int b), (4, .int ro), (5, .int mk)] := hl
  have hlv : kL (lvC l0 s) s := lvC_L
  have hk := xHi_ok hok
  have hq := hcB.n
  refine lv_iload_n hx hb dX9_hive_0 rfl (lv_at hl 1 rfl) ?_
  refine lv_iload_n hx hb dX9_hive_1 rfl (lv_at hl 2 rfl) ?_
  refine m_callP (n := 2) (As := [.int x, .int y]) (rest := []) (st1 := .int (kPl x y) :: []) S.1 (c_X9_isPlace x y) gX9_hive_X9_isPlace rfl (by decide +kernel) ⟨Nat.le_of_ble_eq_true rfl, Nat.le_of_ble_eq_true rfl⟩ rfl hl.1 rfl (Nat.le_of_ble_eq_true rfl) dX9_hive_2 ⟨Nat.le_of_ble_eq_true rfl, Nat.le_of_ble_eq_true rfl⟩ (rfl) ?_
  refine lv_if_eq (tgt := 42) hx hb dX9_hive_5 (by decide) (fun c5 => absurd c5 (hk.1)) (fun c5 => ?_)
  refine lv_iload_n hx hb dX9_hive_8 rfl (lv_at hl 3 rfl) ?_
  refine lv_iconst (v := 0) hx hb dX9_hive_9 (by decide) ?_
  refine lv_ldc (v := 100000) hx hb hown (hts (.constant RX9 140 100000) (by decide +kernel)) dX9_hive_10 ?_
  refine m_callP (n := 3) (As := [.int b, .int 0, .int 100000]) (rest := []) (st1 := .int (fIn b 0 100000) :: []) S.1 (c_X9_isWithin b 0 100000) gX9_hive_X9_isWithin rfl (by decide +kernel) ⟨Nat.le_of_ble_eq_true rfl, Nat.le_of_ble_eq_true rfl⟩ rfl hl.1 rfl (Nat.le_of_ble_eq_true rfl) dX9_hive_12 ⟨Nat.le_of_ble_eq_true rfl, Nat.le_of_ble_eq_true rfl⟩ (rfl) ?_
  refine lv_if_eq (tgt := 42) hx hb dX9_hive_15 (by decide) (fun c15 => absurd c15 (hk.2.1)) (fun c15 => ?_)
  refine lv_iload hx hb dX9_hive_18 (lv_at hl 4 rfl) ?_
  refine lv_sipush (v := 1000) hx hb dX9_hive_20 (by decide) ?_
  refine lv_ldc (v := 100000) hx hb hown (hts (.constant RX9 140 100000) (by decide +kernel)) dX9_hive_23 ?_
  refine m_callP (n := 3) (As := [.int ro, .int 1000, .int 100000]) (rest := []) (st1 := .int (fIn ro 1000 100000) :: []) S.1 (c_X9_isWithin ro 1000 100000) gX9_hive_X9_isWithin rfl (by decide +kernel) ⟨Nat.le_of_ble_eq_true rfl, Nat.le_of_ble_eq_true rfl⟩ rfl hl.1 rfl (Nat.le_of_ble_eq_true rfl) dX9_hive_25 ⟨Nat.le_of_ble_eq_true rfl, Nat.le_of_ble_eq_true rfl⟩ (rfl) ?_
  refine lv_if_eq (tgt := 42) hx hb dX9_hive_28 (by decide) (fun c28 => absurd c28 (hk.2.2.1)) (fun c28 => ?_)
  refine lv_iload hx hb dX9_hive_31 (lv_at hl 5 rfl) ?_
  refine lv_iconst (v := 0) hx hb dX9_hive_33 (by decide) ?_
  refine lv_bipush (v := 7) hx hb dX9_hive_34 (by decide) ?_
  refine m_callP (n := 3) (As := [.int mk, .int 0, .int 7]) (rest := []) (st1 := .int (fIn mk 0 7) :: []) S.1 (c_X9_isWithin mk 0 7) gX9_hive_X9_isWithin rfl (by decide +kernel) ⟨Nat.le_of_ble_eq_true rfl, Nat.le_of_ble_eq_true rfl⟩ rfl hl.1 rfl (Nat.le_of_ble_eq_true rfl) dX9_hive_36 ⟨Nat.le_of_ble_eq_true rfl, Nat.le_of_ble_eq_true rfl⟩ (rfl) ?_
  refine lv_if_ne (tgt := 52) hx hb dX9_hive_39 (by decide) (fun c39 => ?_) (fun c39 => absurd c39 (hk.2.2.2.1))
  refine lv_aload_n hx hb dX9_hive_52 rfl (lv_at hl 0 rfl) ?_
  refine k_ga (C := RX9) (T := TX9) (N := 14) (ci := 10) (v := .ref (ad 105)) S hG (fun w h => List.mem_cons_of_mem _ (List.mem_append_left _ (List.mem_append_left _ (List.mem_append_left _ (List.mem_append_left _ (List.mem_append_right _ h)))))) 100 (hlv.f (by decide) (by decide)) rfl rfl 4 (by decide) rfl (hts (.fieldLink RX9 40 "SwarmLine" "hives" "Ljava/util/ArrayList;") (by decide +kernel)) rfl dX9_hive_53 ?_
  refine k_callV (n := 0) (As := []) (rest := []) (st1 := .int (s 6) :: []) (k := 105) (ci := 0) S hG hL (hlv.f (by decide) (by decide)) rfl rfl (c_size0 s r hlv   ) gX9_hive_Jx4a65c_size_8abf5 rfl ⟨rfl, rfl⟩ (by decide +kernel) ⟨Nat.le_of_ble_eq_true rfl, Nat.le_of_ble_eq_true rfl⟩ rfl hl.1 rfl (Nat.le_of_ble_eq_true rfl) dX9_hive_56 ⟨Nat.le_of_ble_eq_true rfl, Nat.le_of_ble_eq_true rfl⟩ (rfl) (fun H locs hG hL => ?_)
  refine lv_bipush (v := 20) hx hb dX9_hive_59 (by decide) ?_
  refine lv_icmp_lt (tgt := 74) hx hb dX9_hive_61 (by decide) (fun c61 => ?_) (fun c61 => absurd c61 (fun z => z hk.2.2.2.2))
  refine lv_aload_n hx hb dX9_hive_74 rfl (lv_at hl 0 rfl) ?_
  refine k_ga (C := RX9) (T := TX9) (N := 14) (ci := 10) (v := .ref (ad 105)) S hG (fun w h => List.mem_cons_of_mem _ (List.mem_append_left _ (List.mem_append_left _ (List.mem_append_left _ (List.mem_append_left _ (List.mem_append_right _ h)))))) 100 (hlv.f (by decide) (by decide)) rfl rfl 4 (by decide) rfl (hts (.fieldLink RX9 40 "SwarmLine" "hives" "Ljava/util/ArrayList;") (by decide +kernel)) rfl dX9_hive_75 ?_
  refine z_new (C := RX3) (T := TX3) (N := 7) (ci := 4) (fs := [.int 0, .int 0, .int 0, .int 0, .int 0, .int 0, .int 0]) S.1 hK hG (fun w h => List.mem_cons_of_mem _ (List.mem_append_left _ (List.mem_append_left _ (List.mem_append_left _ (List.mem_append_right _ h))))) tyX3 tyX3_ok (hts (.classLink RX9 151 "SwarmLine$Hive") (by decide +kernel)) (hts (.instantiable "SwarmLine$Hive" 7) (by decide +kernel)) (hts (.initialized "SwarmLine$Hive") (by decide +kernel)) rfl (1000 + (s 6).toNatClampNeg) (lvC_nhv hcB) (by decide +kernel) (by show _ ≤ 2; omega) (by show _ ≤ 90; omega) dX9_hive_78 (fun ad1 H had1 hG => ?_)
  have hag : ∀ j, kLv (s 6).toNatClampNeg (s 14).toNatClampNeg (s 26).toNatClampNeg (s 39).toNatClampNeg j → ad1 j = ad j := fun j hj => had1 j (Or.inr hj)
  have hG : gW D Hb (fun j => lvC l0 s j ∨ j = 1000 + (s 6).toNatClampNeg) ad1 (kJ ce0 ad1 K.2.2.1 cI cB cO cR s (zhv r (s 6).toNatClampNeg)) H := by { rw [zhv_e (by omega), ← kJ_ad hag] at hG; exact hG }
  have hlv : kL (fun j => lvC l0 s j ∨ j = 1000 + (s 6).toNatClampNeg) s := fun k h => Or.inl (Or.inr h)
  have hl : lv_has ls 6 [(0, .ref (ad1 100)), (1, .int x), (2, .int y), (3, .int b), (4, .int ro), (5, .int mk)] := by { rw [had1 100 (Or.inr (Or.inl ⟨by decide, by decide⟩))]; exact hl }
  rw [show ad 105 = ad1 105 from (had1 105 (Or.inr (Or.inl ⟨by decide, by decide⟩))).symm]
  refine lv_dup hx hb dX9_hive_81 rfl ?_
  refine lv_iload_n hx hb dX9_hive_82 rfl (lv_at hl 1 rfl) ?_
  refine lv_iload_n hx hb dX9_hive_83 rfl (lv_at hl 2 rfl) ?_
  refine lv_iload_n hx hb dX9_hive_84 rfl (lv_at hl 3 rfl) ?_
  refine lv_iload hx hb dX9_hive_85 (lv_at hl 4 rfl) ?_
  refine lv_iload hx hb dX9_hive_87 (lv_at hl 5 rfl) ?_
  refine k_callI (ws' := []) (n := 5) (As := [.int x, .int y, .int b, .int ro, .int mk]) (rest := [.ref (ad1 (1000 + (s 6).toNatClampNeg)), .ref (ad1 105)]) (st1 := [.ref (ad1 (1000 + (s 6).toNatClampNeg)), .ref (ad1 105)]) (k := 1000 + (s 6).toNatClampNeg) (mc := 0) (ms := 0) S hG hL (c_X3_init s (zhv r (s 6).toNatClampNeg) hlv ((s 6).toNatClampNeg) (Or.inr rfl) (by omega) x y b ro mk) (cwI 5 S.1.2.2.2.2 gX9_hive_X3_init rfl rfl rfl (hts (.initialized RX3) (by decide +kernel)) (hts (.methodLink RX9 153 yX3_init) (by decide +kernel)) (hts (.instanceMethod yX3_init) (by decide +kernel)) rfl (by decide +kernel) ⟨Nat.le_of_ble_eq_true rfl, Nat.le_of_ble_eq_true rfl⟩) rfl hl.1 rfl (Nat.le_of_ble_eq_true rfl) dX9_hive_89 (by constructor <;> (show _ ≤ _; first | exact Nat.le_of_ble_eq_true rfl | (show _ ≤ 2; omega) | (show _ ≤ 90; omega))) rfl (fun H locs hG hL => ?_)
  refine z_add0 (rest := []) S s (up2 (up2 (up2 (up2 (up2 (up2 (up2 (zhv r (s 6).toNatClampNeg) 12 ((s 6).toNatClampNeg) 0) 13 ((s 6).toNatClampNeg) (-1)) 7 ((s 6).toNatClampNeg) x) 8 ((s 6).toNatClampNeg) y) 9 ((s 6).toNatClampNeg) b) 10 ((s 6).toNatClampNeg) ro) 11 ((s 6).toNatClampNeg) mk) hcB (lt20 hk.2.2.2.2) hG hL gX9_hive_Jx4a65c_add_9ea2d ⟨Nat.le_of_ble_eq_true rfl, Nat.le_of_ble_eq_true rfl⟩ hl.1 (Nat.le_of_ble_eq_true rfl) dX9_hive_92 (by constructor <;> (show _ ≤ _; first | (show _ ≤ 2; omega) | (show _ ≤ 90; omega))) (fun ad2 H locs had2 hG hL => ?_)
  have hlv : kL (lvC l0 (upd (upd s 121 ((s 121) + 1)) 6 ((s 6) + 1))) (upd (upd s 121 ((s 121) + 1)) 6 ((s 6) + 1)) := fun k h => Or.inr h
  have hl : lv_has ls 6 [(0, .ref (ad2 100)), (1, .int x), (2, .int y), (3, .int b), (4, .int ro), (5, .int mk)] := by { rw [had2 100 (Or.inl (Or.inr (Or.inl ⟨by decide, by decide⟩)))]; exact hl }
  refine lv_pop hx hb dX9_hive_95 rfl ?_
  refine lv_aload_n hx hb dX9_hive_96 rfl (lv_at hl 0 rfl) ?_
  refine k_ga (C := RX9) (T := TX9) (N := 14) (ci := 10) (v := .ref (ad2 105)) S hG (fun w h => List.mem_cons_of_mem _ (List.mem_append_left _ (List.mem_append_left _ (List.mem_append_left _ (List.mem_append_left _ (List.mem_append_right _ h)))))) 100 (hlv.f (by decide) (by decide)) rfl rfl 4 (by decide) rfl (hts (.fieldLink RX9 40 "SwarmLine" "hives" "Ljava/util/ArrayList;") (by decide +kernel)) rfl dX9_hive_97 ?_
  refine k_callV (n := 0) (As := []) (rest := []) (st1 := .int ((upd (upd s 121 ((s 121) + 1)) 6 ((s 6) + 1)) 6) :: []) (k := 105) (ci := 0) S hG hL (hlv.f (by decide) (by decide)) rfl rfl (c_size0 (upd (upd s 121 ((s 121) + 1)) 6 ((s 6) + 1)) (up2 (up2 (up2 (up2 (up2 (up2 (up2 (zhv r (s 6).toNatClampNeg) 12 ((s 6).toNatClampNeg) 0) 13 ((s 6).toNatClampNeg) (-1)) 7 ((s 6).toNatClampNeg) x) 8 ((s 6).toNatClampNeg) y) 9 ((s 6).toNatClampNeg) b) 10 ((s 6).toNatClampNeg) ro) 11 ((s 6).toNatClampNeg) mk) hlv   ) gX9_hive_Jx4a65c_size_8abf5 rfl ⟨rfl, rfl⟩ (by decide +kernel) ⟨Nat.le_of_ble_eq_true rfl, Nat.le_of_ble_eq_true rfl⟩ rfl hl.1 rfl (Nat.le_of_ble_eq_true rfl) dX9_hive_100 ⟨Nat.le_of_ble_eq_true rfl, Nat.le_of_ble_eq_true rfl⟩ (rfl) (fun H locs hG hL => ?_)
  refine lv_iconst (v := 1) hx hb dX9_hive_103 (by decide) ?_
  refine lv_isub hx hb dX9_hive_104 ?_
  exact mk_iret S.1 hr hlocks (fun j hj => (had2 j (Or.inl (lvC_h hj))).trans (had1 j (lvC_h hj))) hG hL (congrArg (fun z => some (Value.int z)) (by rfl)) (by rfl) (by rfl) dX9_hive_105 (by show _ ≤ 2; omega) (by show _ ≤ 90; omega)

set_option maxHeartbeats 1600000 in
set_option maxRecDepth 100000 in
theorem c_X9_keeper_bad {l : Launch} {D : va_G} {cI cZ cB cO cR cJ : ClassId} {Hb : Heap} {K : kTx} {lv : Nat → Prop} {ad : Nat → Nat} {ce0 : Nat → va_E} (hst : l.stackTraces = false) (s : Nat → Int32) (r : Nat → Nat → Int32) (hlv : kL lv s) (x : Int32) (y : Int32) (b : Int32) (la : Int32) (pa : Int32) (fr : Int32) (to : Int32) (hne : ¬ xKe x y b la pa fr to s = none) : xMet l D cI cZ cB cO cR cJ Hb K lv ad ce0 yX9_keeper wsX9_keeper 6 92 1 [.ref (ad 100), .int x, .int y, .int b, .int la, .int pa, .int fr, .int to] s r (xKe x y b la pa fr to s) (some (.int (0))) s r s r := by
  refine vx_ofW (cc := cX9_keeper) (maxL := 8) (ret := (some .int)) (by decide) rfl ?_
  intro p0 e0 s0 m0 args below meth c0 s₁ B hml hout hv
  obtain ⟨rfl, hG, hK, hE⟩ := hv
  have hx := B.exec
  have hb := B.bytes
  have hr := B.returns
  have hts := atoms_spec (ws := wsX9_keeper) B.pre
  have hown : s0.vm.findClass RX9 = some m0.cls := findClass_of_methodNamed B.named
  have hlocks := B.notSynchronized
  have S : kX p0 m0 c0 cX9_keeper 8 s0 _ wsX9_keeper RX9 D (tyL cI cZ cB cO cR cJ) Hb K := ⟨⟨hx, hb, hml, hown, hts⟩, hK, hE⟩
  have hL : gL Hb [] := gL.nil
  have hH := hG.2.2.2.2
  have hl := lv_entry ([.ref (ad 100), .int x, .int y, .int b, .int la, .int pa, .int fr, .int to]) (n := 8) (Nat.le_of_ble_eq_true rfl)
  rw [lg_entry_eq]
  generalize (lg_sl ([.ref (ad 100), .int x, .int y, .int b, .int la, .int pa, .int fr, .int to]) ++ List.replicate (8 - (lg_sl ([.ref (ad 100), .int x, .int y, .int b, .int la, .int pa, .int fr, .int to])).length) Slot.unset).toArray = ls at hl ⊢
  have hl : lv_has ls 8 [(0, .ref (ad 100)), (1, .int x), (2, .int y), (3, .int b), (4, .int la), (5, .int pa), (6, .int fr), (7, .int to)] := hl
  refine lv_iload_n hx hb dX9_keeper_0 rfl (lv_at hl 1 rfl) ?_
  refine lv_iload_n hx hb dX9_keeper_1 rfl (lv_at hl 2 rfl) ?_
  refine m_callP (n := 2) (As := [.int x, .int y]) (rest := []) (st1 := .int (kPl x y) :: []) S.1 (c_X9_isPlace x y) gX9_keeper_X9_isPlace rfl (by decide +kernel) ⟨Nat.le_of_ble_eq_true rfl, Nat.le_of_ble_eq_true rfl⟩ rfl hl.1 rfl (Nat.le_of_ble_eq_true rfl) dX9_keeper_2 ⟨Nat.le_of_ble_eq_true rfl, Nat.le_of_ble_eq_true rfl⟩ (rfl) ?_
  refine lv_if_eq (tgt := 56) hx hb dX9_keeper_5 (by decide) (fun c5 => ?_) (fun c5 => ?_)
  ·
    exact k_throw (cls := "java/lang/IllegalArgumentException") (text := "no such keeper can be") (i := 6) S hst hH hG hL (by decide +kernel) (hts (.classLink RX9 108 "java/lang/IllegalArgumentException") (by decide +kernel)) (hts (.initialized "java/lang/IllegalArgumentException") (by decide +kernel)) rfl (fun w h => List.mem_cons_of_mem _ (List.mem_append_left _ (List.mem_append_right _ h))) (by decide +kernel) (by decide +kernel) (by decide +kernel) hl.1 dX9_keeper_56 dX9_keeper_59 dX9_keeper_60 dX9_keeper_62 dX9_keeper_65 hout (Nat.le_of_ble_eq_true rfl) (Nat.le_of_ble_eq_true rfl) (Nat.le_of_ble_eq_true rfl) (Nat.le_of_ble_eq_true rfl) hlocks (by simp only [xKe, eq_true c5, if_true, if_false]) (congr (congrArg (kJ ce0 ad K.2.2.1 cI cB cO cR) (by rfl)) (by rfl)) (Nat.le_of_ble_eq_true rfl) (Nat.le_of_ble_eq_true rfl)
  ·
    refine lv_iload_n hx hb dX9_keeper_8 rfl (lv_at hl 3 rfl) ?_
    refine lv_iconst (v := 0) hx hb dX9_keeper_9 (by decide) ?_
    refine lv_bipush (v := 20) hx hb dX9_keeper_10 (by decide) ?_
    refine m_callP (n := 3) (As := [.int b, .int 0, .int 20]) (rest := []) (st1 := .int (fIn b 0 20) :: []) S.1 (c_X9_isWithin b 0 20) gX9_keeper_X9_isWithin rfl (by decide +kernel) ⟨Nat.le_of_ble_eq_true rfl, Nat.le_of_ble_eq_true rfl⟩ rfl hl.1 rfl (Nat.le_of_ble_eq_true rfl) dX9_keeper_12 ⟨Nat.le_of_ble_eq_true rfl, Nat.le_of_ble_eq_true rfl⟩ (rfl) ?_
    refine lv_if_eq (tgt := 56) hx hb dX9_keeper_15 (by decide) (fun c15 => ?_) (fun c15 => ?_)
    ·
      exact k_throw (cls := "java/lang/IllegalArgumentException") (text := "no such keeper can be") (i := 6) S hst hH hG hL (by decide +kernel) (hts (.classLink RX9 108 "java/lang/IllegalArgumentException") (by decide +kernel)) (hts (.initialized "java/lang/IllegalArgumentException") (by decide +kernel)) rfl (fun w h => List.mem_cons_of_mem _ (List.mem_append_left _ (List.mem_append_right _ h))) (by decide +kernel) (by decide +kernel) (by decide +kernel) hl.1 dX9_keeper_56 dX9_keeper_59 dX9_keeper_60 dX9_keeper_62 dX9_keeper_65 hout (Nat.le_of_ble_eq_true rfl) (Nat.le_of_ble_eq_true rfl) (Nat.le_of_ble_eq_true rfl) (Nat.le_of_ble_eq_true rfl) hlocks (by simp only [xKe, eq_false c5, eq_true c15, if_true, if_false]) (congr (congrArg (kJ ce0 ad K.2.2.1 cI cB cO cR) (by rfl)) (by rfl)) (Nat.le_of_ble_eq_true rfl) (Nat.le_of_ble_eq_true rfl)
    ·
      refine lv_iload hx hb dX9_keeper_18 (lv_at hl 4 rfl) ?_
      refine lv_iconst (v := 0) hx hb dX9_keeper_20 (by decide) ?_
      refine lv_bipush (v := 9) hx hb dX9_keeper_21 (by decide) ?_
      refine m_callP (n := 3) (As := [.int la, .int 0, .int 9]) (rest := []) (st1 := .int (fIn la 0 9) :: []) S.1 (c_X9_isWithin la 0 9) gX9_keeper_X9_isWithin rfl (by decide +kernel) ⟨Nat.le_of_ble_eq_true rfl, Nat.le_of_ble_eq_true rfl⟩ rfl hl.1 rfl (Nat.le_of_ble_eq_true rfl) dX9_keeper_23 ⟨Nat.le_of_ble_eq_true rfl, Nat.le_of_ble_eq_true rfl⟩ (rfl) ?_
      refine lv_if_eq (tgt := 56) hx hb dX9_keeper_26 (by decide) (fun c26 => ?_) (fun c26 => ?_)
      ·
        exact k_throw (cls := "java/lang/IllegalArgumentException") (text := "no such keeper can be") (i := 6) S hst hH hG hL (by decide +kernel) (hts (.classLink RX9 108 "java/lang/IllegalArgumentException") (by decide +kernel)) (hts (.initialized "java/lang/IllegalArgumentException") (by decide +kernel)) rfl (fun w h => List.mem_cons_of_mem _ (List.mem_append_left _ (List.mem_append_right _ h))) (by decide +kernel) (by decide +kernel) (by decide +kernel) hl.1 dX9_keeper_56 dX9_keeper_59 dX9_keeper_60 dX9_keeper_62 dX9_keeper_65 hout (Nat.le_of_ble_eq_true rfl) (Nat.le_of_ble_eq_true rfl) (Nat.le_of_ble_eq_true rfl) (Nat.le_of_ble_eq_true rfl) hlocks (by simp only [xKe, eq_false c5, eq_false c15, eq_true c26, if_true, if_false]) (congr (congrArg (kJ ce0 ad K.2.2.1 cI cB cO cR) (by rfl)) (by rfl)) (Nat.le_of_ble_eq_true rfl) (Nat.le_of_ble_eq_true rfl)
      ·
        refine lv_iload hx hb dX9_keeper_29 (lv_at hl 5 rfl) ?_
        refine lv_iconst (v := 1) hx hb dX9_keeper_31 (by decide) ?_
        refine lv_bipush (v := 10) hx hb dX9_keeper_32 (by decide) ?_
        refine m_callP (n := 3) (As := [.int pa, .int 1, .int 10]) (rest := []) (st1 := .int (fIn pa 1 10) :: []) S.1 (c_X9_isWithin pa 1 10) gX9_keeper_X9_isWithin rfl (by decide +kernel) ⟨Nat.le_of_ble_eq_true rfl, Nat.le_of_ble_eq_true rfl⟩ rfl hl.1 rfl (Nat.le_of_ble_eq_true rfl) dX9_keeper_34 ⟨Nat.le_of_ble_eq_true rfl, Nat.le_of_ble_eq_true rfl⟩ (rfl) ?_
        refine lv_if_eq (tgt := 56) hx hb dX9_keeper_37 (by decide) (fun c37 => ?_) (fun c37 => ?_)
        ·
          exact k_throw (cls := "java/lang/IllegalArgumentException") (text := "no such keeper can be") (i := 6) S hst hH hG hL (by decide +kernel) (hts (.classLink RX9 108 "java/lang/IllegalArgumentException") (by decide +kernel)) (hts (.initialized "java/lang/IllegalArgumentException") (by decide +kernel)) rfl (fun w h => List.mem_cons_of_mem _ (List.mem_append_left _ (List.mem_append_right _ h))) (by decide +kernel) (by decide +kernel) (by decide +kernel) hl.1 dX9_keeper_56 dX9_keeper_59 dX9_keeper_60 dX9_keeper_62 dX9_keeper_65 hout (Nat.le_of_ble_eq_true rfl) (Nat.le_of_ble_eq_true rfl) (Nat.le_of_ble_eq_true rfl) (Nat.le_of_ble_eq_true rfl) hlocks (by simp only [xKe, eq_false c5, eq_false c15, eq_false c26, eq_true c37, if_true, if_false]) (congr (congrArg (kJ ce0 ad K.2.2.1 cI cB cO cR) (by rfl)) (by rfl)) (Nat.le_of_ble_eq_true rfl) (Nat.le_of_ble_eq_true rfl)
        ·
          refine lv_iload hx hb dX9_keeper_40 (lv_at hl 6 rfl) ?_
          refine m_callP (n := 1) (As := [.int fr]) (rest := []) (st1 := .int (fIn fr 0 23) :: []) S.1 (c_X9_isHourOfDay fr) gX9_keeper_X9_isHourOfDay rfl (by decide +kernel) ⟨Nat.le_of_ble_eq_true rfl, Nat.le_of_ble_eq_true rfl⟩ rfl hl.1 rfl (Nat.le_of_ble_eq_true rfl) dX9_keeper_42 ⟨Nat.le_of_ble_eq_true rfl, Nat.le_of_ble_eq_true rfl⟩ (rfl) ?_
          refine lv_if_eq (tgt := 56) hx hb dX9_keeper_45 (by decide) (fun c45 => ?_) (fun c45 => ?_)
          ·
            exact k_throw (cls := "java/lang/IllegalArgumentException") (text := "no such keeper can be") (i := 6) S hst hH hG hL (by decide +kernel) (hts (.classLink RX9 108 "java/lang/IllegalArgumentException") (by decide +kernel)) (hts (.initialized "java/lang/IllegalArgumentException") (by decide +kernel)) rfl (fun w h => List.mem_cons_of_mem _ (List.mem_append_left _ (List.mem_append_right _ h))) (by decide +kernel) (by decide +kernel) (by decide +kernel) hl.1 dX9_keeper_56 dX9_keeper_59 dX9_keeper_60 dX9_keeper_62 dX9_keeper_65 hout (Nat.le_of_ble_eq_true rfl) (Nat.le_of_ble_eq_true rfl) (Nat.le_of_ble_eq_true rfl) (Nat.le_of_ble_eq_true rfl) hlocks (by simp only [xKe, eq_false c5, eq_false c15, eq_false c26, eq_false c37, eq_true c45, if_true, if_false]) (congr (congrArg (kJ ce0 ad K.2.2.1 cI cB cO cR) (by rfl)) (by rfl)) (Nat.le_of_ble_eq_true rfl) (Nat.le_of_ble_eq_true rfl)
          ·
            refine lv_iload hx hb dX9_keeper_48 (lv_at hl 7 rfl) ?_
            refine m_callP (n := 1) (As := [.int to]) (rest := []) (st1 := .int (fIn to 0 23) :: []) S.1 (c_X9_isHourOfDay to) gX9_keeper_X9_isHourOfDay rfl (by decide +kernel) ⟨Nat.le_of_ble_eq_true rfl, Nat.le_of_ble_eq_true rfl⟩ rfl hl.1 rfl (Nat.le_of_ble_eq_true rfl) dX9_keeper_50 ⟨Nat.le_of_ble_eq_true rfl, Nat.le_of_ble_eq_true rfl⟩ (rfl) ?_
            refine lv_if_ne (tgt := 66) hx hb dX9_keeper_53 (by decide) (fun c53 => ?_) (fun c53 => ?_)
            ·
              refine lv_aload_n hx hb dX9_keeper_66 rfl (lv_at hl 0 rfl) ?_
              refine k_ga (C := RX9) (T := TX9) (N := 14) (ci := 10) (v := .ref (ad 107)) S hG (fun w h => List.mem_cons_of_mem _ (List.mem_append_left _ (List.mem_append_left _ (List.mem_append_left _ (List.mem_append_left _ (List.mem_append_right _ h)))))) 100 (hlv.f (by decide) (by decide)) rfl rfl 6 (by decide) rfl (hts (.fieldLink RX9 47 "SwarmLine" "keepers" "Ljava/util/ArrayList;") (by decide +kernel)) rfl dX9_keeper_67 ?_
              refine k_callV (n := 0) (As := []) (rest := []) (st1 := .int (s 26) :: []) (k := 107) (ci := 0) S hG hL (hlv.f (by decide) (by decide)) rfl rfl (c_size2 s r hlv   ) gX9_keeper_Jx4a65c_size_8abf5 rfl ⟨rfl, rfl⟩ (by decide +kernel) ⟨Nat.le_of_ble_eq_true rfl, Nat.le_of_ble_eq_true rfl⟩ rfl hl.1 rfl (Nat.le_of_ble_eq_true rfl) dX9_keeper_70 ⟨Nat.le_of_ble_eq_true rfl, Nat.le_of_ble_eq_true rfl⟩ (rfl) (fun H locs hG hL => ?_)
              refine lv_bipush (v := 12) hx hb dX9_keeper_73 (by decide) ?_
              refine lv_icmp_lt (tgt := 88) hx hb dX9_keeper_75 (by decide) (fun c75 => absurd c75 (fun z9 => hne (by simp only [xKe, eq_false c5, eq_false c15, eq_false c26, eq_false c37, eq_false c45, eq_false c53, eq_true z9, if_true, if_false]))) (fun c75 => ?_)
              exact k_throw (cls := "java/lang/UnsupportedOperationException") (text := "too many keepers") (i := 7) S hst hH hG hL (by decide +kernel) (hts (.classLink RX9 146 "java/lang/UnsupportedOperationException") (by decide +kernel)) (hts (.initialized "java/lang/UnsupportedOperationException") (by decide +kernel)) rfl (fun w h => List.mem_cons_of_mem _ (List.mem_append_right _ h)) (by decide +kernel) (by decide +kernel) (by decide +kernel) hl.1 dX9_keeper_78 dX9_keeper_81 dX9_keeper_82 dX9_keeper_84 dX9_keeper_87 hout (Nat.le_of_ble_eq_true rfl) (Nat.le_of_ble_eq_true rfl) (Nat.le_of_ble_eq_true rfl) (Nat.le_of_ble_eq_true rfl) hlocks (by simp only [xKe, eq_false c5, eq_false c15, eq_false c26, eq_false c37, eq_false c45, eq_false c53, eq_false c75, if_true, if_false]) (congr (congrArg (kJ ce0 ad K.2.2.1 cI cB cO cR) (by rfl)) (by rfl)) (Nat.le_of_ble_eq_true rfl) (Nat.le_of_ble_eq_true rfl)
            ·
              exact k_throw (cls := "java/lang/IllegalArgumentException") (text := "no such keeper can be") (i := 6) S hst hH hG hL (by decide +kernel) (hts (.classLink RX9 108 "java/lang/IllegalArgumentException") (by decide +kernel)) (hts (.initialized "java/lang/IllegalArgumentException") (by decide +kernel)) rfl (fun w h => List.mem_cons_of_mem _ (List.mem_append_left _ (List.mem_append_right _ h))) (by decide +kernel) (by decide +kernel) (by decide +kernel) hl.1 dX9_keeper_56 dX9_keeper_59 dX9_keeper_60 dX9_keeper_62 dX9_keeper_65 hout (Nat.le_of_ble_eq_true rfl) (Nat.le_of_ble_eq_true rfl) (Nat.le_of_ble_eq_true rfl) (Nat.le_of_ble_eq_true rfl) hlocks (by simp only [xKe, eq_false c5, eq_false c15, eq_false c26, eq_false c37, eq_false c45, eq_true c53, if_true, if_false]) (congr (congrArg (kJ ce0 ad K.2.2.1 cI cB cO cR) (by rfl)) (by rfl)) (Nat.le_of_ble_eq_true rfl) (Nat.le_of_ble_eq_true rfl)

set_option maxHeartbeats 1600000 in
set_option maxRecDepth 100000 in
theorem c_X9_keeper_ok {l : Launch} {D : va_G} {cI cZ cB cO cR cJ : ClassId} {Hb : Heap} {K : kTx} {l0 : Nat → Prop} {ad : Nat → Nat} {ce0 : Nat → va_E} (s : Nat → Int32) (r : Nat → Nat → Int32) (x : Int32) (y : Int32) (b : Int32) (la : Int32) (pa : Int32) (fr : Int32) (to : Int32) (hok : xKe x y b la pa fr to s = none) (hcB : cBd s) : Met l yX9_keeper wsX9_keeper { frames := 7, cells := 2, slots := 90, locals := 180 } (va_Pc [.ref (ad 100), .int x, .int y, .int b, .int la, .int pa, .int fr, .int to] (kP D (tyL cI cZ cB cO cR cJ) Hb K (lvC l0 s) ad (kJ ce0 ad K.2.2.1 cI cB cO cR s r))) (mQ D Hb l0 ad (lvA l0) (some (.int (s 26 + 1 - 1))) ce0 K.2.2.1 cI cB cO cR (upd (upd s 123 (s 123 + 1)) 26 (s 26 + 1)) (up2 (up2 (up2 (up2 (up2 (up2 (up2 (up2 (up2 (up2 (up2 (up2 (zkp r ((s 26).toNatClampNeg)) 34 ((s 26).toNatClampNeg) 0) 36 ((s 26).toNatClampNeg) 0) 35 ((s 26).toNatClampNeg) 0) 37 ((s 26).toNatClampNeg) (-1)) 38 ((s 26).toNatClampNeg) 0) 27 ((s 26).toNatClampNeg) x) 28 ((s 26).toNatClampNeg) y) 29 ((s 26).toNatClampNeg) b) 30 ((s 26).toNatClampNeg) la) 31 ((s 26).toNatClampNeg) pa) 32 ((s 26).toNatClampNeg) fr) 33 ((s 26).toNatClampNeg) to)) 2 90 (gA Hb) := by
  refine Met.ofW (cc := cX9_keeper) (maxL := 8) (ret := (some .int)) (by decide) rfl ?_
  intro p0 e0 s0 m0 args below meth c0 s₁ B hml hv
  obtain ⟨rfl, hG, hK, hE⟩ := hv
  have hx := B.exec
  have hb := B.bytes
  have hr := B.returns
  have hts := atoms_spec (ws := wsX9_keeper) B.pre
  have hown : s0.vm.findClass RX9 = some m0.cls := findClass_of_methodNamed B.named
  have hlocks := B.notSynchronized
  have S : kX p0 m0 c0 cX9_keeper 8 s0 _ wsX9_keeper RX9 D (tyL cI cZ cB cO cR cJ) Hb K := ⟨⟨hx, hb, hml, hown, hts⟩, hK, hE⟩
  have hL : gL Hb [] := gL.nil
  have hH := hG.2.2.2.2
  have hl := lv_entry ([.ref (ad 100), .int x, .int y, .int b, .int la, .int pa, .int fr, .int to]) (n := 8) (Nat.le_of_ble_eq_true rfl)
  rw [lg_entry_eq]
  generalize (lg_sl ([.ref (ad 100), .int x, .int y, .int b, .int la, .int pa, .int fr, .int to]) ++ List.replicate (8 - (lg_sl ([.ref (ad 100), .int x, .int y, .int b, .int la, .int pa, .int fr, .int to])).length) Slot.unset).toArray = ls at hl ⊢
  have hl : lv_has ls 8 [(0, .ref (ad 100)), (1, .int x), (2, .int y), (3, .int b), (4, .int la), (5, .int pa), (6, .int fr), (7, .int to)] := hl
  have hlv : kL (lvC l0 s) s := lvC_L
  have hk := xKe_ok hok
  have hq := hcB.n
  refine lv_iload_n hx hb dX9_keeper_0 rfl (lv_at hl 1 rfl) ?_
  refine lv_iload_n hx hb dX9_keeper_1 rfl (lv_at hl 2 rfl) ?_
  refine m_callP (n := 2) (As := [.int x, .int y]) (rest := []) (st1 := .int (kPl x y) :: []) S.1 (c_X9_isPlace x y) gX9_keeper_X9_isPlace rfl (by decide +kernel) ⟨Nat.le_of_ble_eq_true rfl, Nat.le_of_ble_eq_true rfl⟩ rfl hl.1 rfl (Nat.le_of_ble_eq_true rfl) dX9_keeper_2 ⟨Nat.le_of_ble_eq_true rfl, Nat.le_of_ble_eq_true rfl⟩ (rfl) ?_
  refine lv_if_eq (tgt := 56) hx hb dX9_keeper_5 (by decide) (fun c5 => absurd c5 (hk.1)) (fun c5 => ?_)
  refine lv_iload_n hx hb dX9_keeper_8 rfl (lv_at hl 3 rfl) ?_
  refine lv_iconst (v := 0) hx hb dX9_keeper_9 (by decide) ?_
  refine lv_bipush (v := 20) hx hb dX9_keeper_10 (by decide) ?_
  refine m_callP (n := 3) (As := [.int b, .int 0, .int 20]) (rest := []) (st1 := .int (fIn b 0 20) :: []) S.1 (c_X9_isWithin b 0 20) gX9_keeper_X9_isWithin rfl (by decide +kernel) ⟨Nat.le_of_ble_eq_true rfl, Nat.le_of_ble_eq_true rfl⟩ rfl hl.1 rfl (Nat.le_of_ble_eq_true rfl) dX9_keeper_12 ⟨Nat.le_of_ble_eq_true rfl, Nat.le_of_ble_eq_true rfl⟩ (rfl) ?_
  refine lv_if_eq (tgt := 56) hx hb dX9_keeper_15 (by decide) (fun c15 => absurd c15 (hk.2.1)) (fun c15 => ?_)
  refine lv_iload hx hb dX9_keeper_18 (lv_at hl 4 rfl) ?_
  refine lv_iconst (v := 0) hx hb dX9_keeper_20 (by decide) ?_
  refine lv_bipush (v := 9) hx hb dX9_keeper_21 (by decide) ?_
  refine m_callP (n := 3) (As := [.int la, .int 0, .int 9]) (rest := []) (st1 := .int (fIn la 0 9) :: []) S.1 (c_X9_isWithin la 0 9) gX9_keeper_X9_isWithin rfl (by decide +kernel) ⟨Nat.le_of_ble_eq_true rfl, Nat.le_of_ble_eq_true rfl⟩ rfl hl.1 rfl (Nat.le_of_ble_eq_true rfl) dX9_keeper_23 ⟨Nat.le_of_ble_eq_true rfl, Nat.le_of_ble_eq_true rfl⟩ (rfl) ?_
  refine lv_if_eq (tgt := 56) hx hb dX9_keeper_26 (by decide) (fun c26 => absurd c26 (hk.2.2.1)) (fun c26 => ?_)
  refine lv_iload hx hb dX9_keeper_29 (lv_at hl 5 rfl) ?_
  refine lv_iconst (v := 1) hx hb dX9_keeper_31 (by decide) ?_
  refine lv_bipush (v := 10) hx hb dX9_keeper_32 (by decide) ?_
  refine m_callP (n := 3) (As := [.int pa, .int 1, .int 10]) (rest := []) (st1 := .int (fIn pa 1 10) :: []) S.1 (c_X9_isWithin pa 1 10) gX9_keeper_X9_isWithin rfl (by decide +kernel) ⟨Nat.le_of_ble_eq_true rfl, Nat.le_of_ble_eq_true rfl⟩ rfl hl.1 rfl (Nat.le_of_ble_eq_true rfl) dX9_keeper_34 ⟨Nat.le_of_ble_eq_true rfl, Nat.le_of_ble_eq_true rfl⟩ (rfl) ?_
  refine lv_if_eq (tgt := 56) hx hb dX9_keeper_37 (by decide) (fun c37 => absurd c37 (hk.2.2.2.1)) (fun c37 => ?_)
  refine lv_iload hx hb dX9_keeper_40 (lv_at hl 6 rfl) ?_
  refine m_callP (n := 1) (As := [.int fr]) (rest := []) (st1 := .int (fIn fr 0 23) :: []) S.1 (c_X9_isHourOfDay fr) gX9_keeper_X9_isHourOfDay rfl (by decide +kernel) ⟨Nat.le_of_ble_eq_true rfl, Nat.le_of_ble_eq_true rfl⟩ rfl hl.1 rfl (Nat.le_of_ble_eq_true rfl) dX9_keeper_42 ⟨Nat.le_of_ble_eq_true rfl, Nat.le_of_ble_eq_true rfl⟩ (rfl) ?_
  refine lv_if_eq (tgt := 56) hx hb dX9_keeper_45 (by decide) (fun c45 => absurd c45 (hk.2.2.2.2.1)) (fun c45 => ?_)
  refine lv_iload hx hb dX9_keeper_48 (lv_at hl 7 rfl) ?_
  refine m_callP (n := 1) (As := [.int to]) (rest := []) (st1 := .int (fIn to 0 23) :: []) S.1 (c_X9_isHourOfDay to) gX9_keeper_X9_isHourOfDay rfl (by decide +kernel) ⟨Nat.le_of_ble_eq_true rfl, Nat.le_of_ble_eq_true rfl⟩ rfl hl.1 rfl (Nat.le_of_ble_eq_true rfl) dX9_keeper_50 ⟨Nat.le_of_ble_eq_true rfl, Nat.le_of_ble_eq_true rfl⟩ (rfl) ?_
  refine lv_if_ne (tgt := 66) hx hb dX9_keeper_53 (by decide) (fun c53 => ?_) (fun c53 => absurd c53 (hk.2.2.2.2.2.1))
  refine lv_aload_n hx hb dX9_keeper_66 rfl (lv_at hl 0 rfl) ?_
  refine k_ga (C := RX9) (T := TX9) (N := 14) (ci := 10) (v := .ref (ad 107)) S hG (fun w h => List.mem_cons_of_mem _ (List.mem_append_left _ (List.mem_append_left _ (List.mem_append_left _ (List.mem_append_left _ (List.mem_append_right _ h)))))) 100 (hlv.f (by decide) (by decide)) rfl rfl 6 (by decide) rfl (hts (.fieldLink RX9 47 "SwarmLine" "keepers" "Ljava/util/ArrayList;") (by decide +kernel)) rfl dX9_keeper_67 ?_
  refine k_callV (n := 0) (As := []) (rest := []) (st1 := .int (s 26) :: []) (k := 107) (ci := 0) S hG hL (hlv.f (by decide) (by decide)) rfl rfl (c_size2 s r hlv   ) gX9_keeper_Jx4a65c_size_8abf5 rfl ⟨rfl, rfl⟩ (by decide +kernel) ⟨Nat.le_of_ble_eq_true rfl, Nat.le_of_ble_eq_true rfl⟩ rfl hl.1 rfl (Nat.le_of_ble_eq_true rfl) dX9_keeper_70 ⟨Nat.le_of_ble_eq_true rfl, Nat.le_of_ble_eq_true rfl⟩ (rfl) (fun H locs hG hL => ?_)
  refine lv_bipush (v := 12) hx hb dX9_keeper_73 (by decide) ?_
  refine lv_icmp_lt (tgt := 88) hx hb dX9_keeper_75 (by decide) (fun c75 => ?_) (fun c75 => absurd c75 (fun z => z hk.2.2.2.2.2.2))
  refine lv_aload_n hx hb dX9_keeper_88 rfl (lv_at hl 0 rfl) ?_
  refine k_ga (C := RX9) (T := TX9) (N := 14) (ci := 10) (v := .ref (ad 107)) S hG (fun w h => List.mem_cons_of_mem _ (List.mem_append_left _ (List.mem_append_left _ (List.mem_append_left _ (List.mem_append_left _ (List.mem_append_right _ h)))))) 100 (hlv.f (by decide) (by decide)) rfl rfl 6 (by decide) rfl (hts (.fieldLink RX9 47 "SwarmLine" "keepers" "Ljava/util/ArrayList;") (by decide +kernel)) rfl dX9_keeper_89 ?_
  refine z_new (C := RX4) (T := TX4) (N := 12) (ci := 5) (fs := [.int 0, .int 0, .int 0, .int 0, .int 0, .int 0, .int 0, .int 0, .int 0, .int 0, .int 0, .int 0]) S.1 hK hG (fun w h => List.mem_cons_of_mem _ (List.mem_append_left _ (List.mem_append_left _ (List.mem_append_left _ (List.mem_append_right _ h))))) tyX4 tyX4_ok (hts (.classLink RX9 167 "SwarmLine$Keeper") (by decide +kernel)) (hts (.instantiable "SwarmLine$Keeper" 12) (by decide +kernel)) (hts (.initialized "SwarmLine$Keeper") (by decide +kernel)) rfl (3000 + (s 26).toNatClampNeg) (lvC_nkp hcB) (by decide +kernel) (by show _ ≤ 2; omega) (by show _ ≤ 90; omega) dX9_keeper_92 (fun ad1 H had1 hG => ?_)
  have hag : ∀ j, kLv (s 6).toNatClampNeg (s 14).toNatClampNeg (s 26).toNatClampNeg (s 39).toNatClampNeg j → ad1 j = ad j := fun j hj => had1 j (Or.inr hj)
  have hG : gW D Hb (fun j => lvC l0 s j ∨ j = 3000 + (s 26).toNatClampNeg) ad1 (kJ ce0 ad1 K.2.2.1 cI cB cO cR s (zkp r (s 26).toNatClampNeg)) H := by { rw [zkp_e (by omega), ← kJ_ad hag] at hG; exact hG }
  have hlv : kL (fun j => lvC l0 s j ∨ j = 3000 + (s 26).toNatClampNeg) s := fun k h => Or.inl (Or.inr h)
  have hl : lv_has ls 8 [(0, .ref (ad1 100)), (1, .int x), (2, .int y), (3, .int b), (4, .int la), (5, .int pa), (6, .int fr), (7, .int to)] := by { rw [had1 100 (Or.inr (Or.inl ⟨by decide, by decide⟩))]; exact hl }
  rw [show ad 107 = ad1 107 from (had1 107 (Or.inr (Or.inl ⟨by decide, by decide⟩))).symm]
  refine lv_dup hx hb dX9_keeper_95 rfl ?_
  refine lv_iload_n hx hb dX9_keeper_96 rfl (lv_at hl 1 rfl) ?_
  refine lv_iload_n hx hb dX9_keeper_97 rfl (lv_at hl 2 rfl) ?_
  refine lv_iload_n hx hb dX9_keeper_98 rfl (lv_at hl 3 rfl) ?_
  refine lv_iload hx hb dX9_keeper_99 (lv_at hl 4 rfl) ?_
  refine lv_iload hx hb dX9_keeper_101 (lv_at hl 5 rfl) ?_
  refine lv_iload hx hb dX9_keeper_103 (lv_at hl 6 rfl) ?_
  refine lv_iload hx hb dX9_keeper_105 (lv_at hl 7 rfl) ?_
  refine k_callI (ws' := []) (n := 7) (As := [.int x, .int y, .int b, .int la, .int pa, .int fr, .int to]) (rest := [.ref (ad1 (3000 + (s 26).toNatClampNeg)), .ref (ad1 107)]) (st1 := [.ref (ad1 (3000 + (s 26).toNatClampNeg)), .ref (ad1 107)]) (k := 3000 + (s 26).toNatClampNeg) (mc := 0) (ms := 0) S hG hL (c_X4_init s (zkp r (s 26).toNatClampNeg) hlv ((s 26).toNatClampNeg) (Or.inr rfl) (by omega) x y b la pa fr to) (cwI 7 S.1.2.2.2.2 gX9_keeper_X4_init rfl rfl rfl (hts (.initialized RX4) (by decide +kernel)) (hts (.methodLink RX9 169 yX4_init) (by decide +kernel)) (hts (.instanceMethod yX4_init) (by decide +kernel)) rfl (by decide +kernel) ⟨Nat.le_of_ble_eq_true rfl, Nat.le_of_ble_eq_true rfl⟩) rfl hl.1 rfl (Nat.le_of_ble_eq_true rfl) dX9_keeper_107 (by constructor <;> (show _ ≤ _; first | exact Nat.le_of_ble_eq_true rfl | (show _ ≤ 2; omega) | (show _ ≤ 90; omega))) rfl (fun H locs hG hL => ?_)
  refine z_add2 (rest := []) S s (up2 (up2 (up2 (up2 (up2 (up2 (up2 (up2 (up2 (up2 (up2 (up2 (zkp r (s 26).toNatClampNeg) 34 ((s 26).toNatClampNeg) 0) 36 ((s 26).toNatClampNeg) 0) 35 ((s 26).toNatClampNeg) 0) 37 ((s 26).toNatClampNeg) (-1)) 38 ((s 26).toNatClampNeg) 0) 27 ((s 26).toNatClampNeg) x) 28 ((s 26).toNatClampNeg) y) 29 ((s 26).toNatClampNeg) b) 30 ((s 26).toNatClampNeg) la) 31 ((s 26).toNatClampNeg) pa) 32 ((s 26).toNatClampNeg) fr) 33 ((s 26).toNatClampNeg) to) hcB (lt12 hk.2.2.2.2.2.2) hG hL gX9_keeper_Jx4a65c_add_9ea2d ⟨Nat.le_of_ble_eq_true rfl, Nat.le_of_ble_eq_true rfl⟩ hl.1 (Nat.le_of_ble_eq_true rfl) dX9_keeper_110 (by constructor <;> (show _ ≤ _; first | (show _ ≤ 2; omega) | (show _ ≤ 90; omega))) (fun ad2 H locs had2 hG hL => ?_)
  have hlv : kL (lvC l0 (upd (upd s 123 ((s 123) + 1)) 26 ((s 26) + 1))) (upd (upd s 123 ((s 123) + 1)) 26 ((s 26) + 1)) := fun k h => Or.inr h
  have hl : lv_has ls 8 [(0, .ref (ad2 100)), (1, .int x), (2, .int y), (3, .int b), (4, .int la), (5, .int pa), (6, .int fr), (7, .int to)] := by { rw [had2 100 (Or.inl (Or.inr (Or.inl ⟨by decide, by decide⟩)))]; exact hl }
  refine lv_pop hx hb dX9_keeper_113 rfl ?_
  refine lv_aload_n hx hb dX9_keeper_114 rfl (lv_at hl 0 rfl) ?_
  refine k_ga (C := RX9) (T := TX9) (N := 14) (ci := 10) (v := .ref (ad2 107)) S hG (fun w h => List.mem_cons_of_mem _ (List.mem_append_left _ (List.mem_append_left _ (List.mem_append_left _ (List.mem_append_left _ (List.mem_append_right _ h)))))) 100 (hlv.f (by decide) (by decide)) rfl rfl 6 (by decide) rfl (hts (.fieldLink RX9 47 "SwarmLine" "keepers" "Ljava/util/ArrayList;") (by decide +kernel)) rfl dX9_keeper_115 ?_
  refine k_callV (n := 0) (As := []) (rest := []) (st1 := .int ((upd (upd s 123 ((s 123) + 1)) 26 ((s 26) + 1)) 26) :: []) (k := 107) (ci := 0) S hG hL (hlv.f (by decide) (by decide)) rfl rfl (c_size2 (upd (upd s 123 ((s 123) + 1)) 26 ((s 26) + 1)) (up2 (up2 (up2 (up2 (up2 (up2 (up2 (up2 (up2 (up2 (up2 (up2 (zkp r (s 26).toNatClampNeg) 34 ((s 26).toNatClampNeg) 0) 36 ((s 26).toNatClampNeg) 0) 35 ((s 26).toNatClampNeg) 0) 37 ((s 26).toNatClampNeg) (-1)) 38 ((s 26).toNatClampNeg) 0) 27 ((s 26).toNatClampNeg) x) 28 ((s 26).toNatClampNeg) y) 29 ((s 26).toNatClampNeg) b) 30 ((s 26).toNatClampNeg) la) 31 ((s 26).toNatClampNeg) pa) 32 ((s 26).toNatClampNeg) fr) 33 ((s 26).toNatClampNeg) to) hlv   ) gX9_keeper_Jx4a65c_size_8abf5 rfl ⟨rfl, rfl⟩ (by decide +kernel) ⟨Nat.le_of_ble_eq_true rfl, Nat.le_of_ble_eq_true rfl⟩ rfl hl.1 rfl (Nat.le_of_ble_eq_true rfl) dX9_keeper_118 ⟨Nat.le_of_ble_eq_true rfl, Nat.le_of_ble_eq_true rfl⟩ (rfl) (fun H locs hG hL => ?_)
  refine lv_iconst (v := 1) hx hb dX9_keeper_121 (by decide) ?_
  refine lv_isub hx hb dX9_keeper_122 ?_
  exact mk_iret S.1 hr hlocks (fun j hj => (had2 j (Or.inl (lvC_h hj))).trans (had1 j (lvC_h hj))) hG hL (congrArg (fun z => some (Value.int z)) (by rfl)) (by rfl) (by rfl) dX9_keeper_123 (by show _ ≤ 2; omega) (by show _ ≤ 90; omega)
