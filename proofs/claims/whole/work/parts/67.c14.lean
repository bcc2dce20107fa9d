theorem kNw_in {lo hi : Int32} {s : Nat → Int32} {r : Nat → Nat → Int32} (h : ¬ kNw lo hi s r = 0) : ¬ fIn (vVa s r) lo hi = 0 := by
  intro z
  unfold kNw at h
  by_cases c : vVa s r = -1
  · rw [if_pos c] at h; exact h rfl
  · rw [if_neg c, if_pos z] at h; exact h rfl
theorem kNw_16 {s : Nat → Int32} {r : Nat → Nat → Int32} (h : ¬ kNw 0 15 s r = 0) : 0 ≤ (vVa s r).toInt ∧ (vVa s r).toInt ≤ 16 := by
  have q := fIn_b (kNw_in h)
  have z : (15 : Int32).toInt = 15 := rfl
  have z0 : (0 : Int32).toInt = 0 := rfl
  omega
def rdD (s : Nat → Int32) (r : Nat → Nat → Int32) : FS := if kIw 20 s r = 0 then (if kIw 21 s r = 0 then (-1, s) else if kNw 0 15 (adS s r) r = 0 then (-1, adS s r) else ((if r 102 (Int32.toNatClampNeg (vVa (adS s r) r)) = 0 then vVa (adS s r) r else -1), adS s r)) else ((if r 102 (Int32.toNatClampNeg 16) = 0 then 16 else -1), s)

set_option maxHeartbeats 400000 in
set_option maxRecDepth 100000 in
theorem c_X8_readDistrict {l : Launch} {D : va_G} {cI cZ cB cO cR cJ : ClassId} {Hb : Heap} {K : kTx} {lv : Nat → Prop} {ad : Nat → Nat} {ce0 : Nat → va_E} (s : Nat → Int32) (r : Nat → Nat → Int32) (hlv : kL lv s)  (hB : tW s) (hT : hTp r) : kMet l D cI cZ cB cO cR cJ Hb K lv ad ce0 yX8_readDistrict wsX8_readDistrict 5 107 [.ref (ad 111), .ref (ad 101)] s r (some (.int ((rdD s r).1))) ((rdD s r).2) r := by
  refine Met.ofW (cc := cX8_readDistrict) (maxL := 3) (ret := (some .int)) (by decide) rfl ?_
  intro p0 e0 s0 m0 args below meth c0 s₁ B hml hv
  obtain ⟨rfl, hG, hK, hE⟩ := hv
  have hx := B.exec
  have hb := B.bytes
  have hr := B.returns
  have hts := atoms_spec (ws := wsX8_readDistrict) B.pre
  have hown : s0.vm.findClass RX8 = some m0.cls := findClass_of_methodNamed B.named
  have hlocks := B.notSynchronized
  have S : kX p0 m0 c0 cX8_readDistrict 3 s0 _ wsX8_readDistrict RX8 D (tyL cI cZ cB cO cR cJ) Hb K := ⟨⟨hx, hb, hml, hown, hts⟩, hK, hE⟩
  have hL : gL Hb [] := gL.nil
  have hH := hG.2.2.2.2
  have hl := lv_entry ([.ref (ad 111), .ref (ad 101)]) (n := 3) (Nat.le_of_ble_eq_true rfl)
  rw [lg_entry_eq]
  generalize (lg_sl ([.ref (ad 111), .ref (ad 101)]) ++ List.replicate (3 - (lg_sl ([.ref (ad 111), .ref (ad 101)])).length) Slot.unset).toArray = ls at hl ⊢
  have hl : lv_has ls 3 [(0, .ref (ad 111)), (1, .ref (ad 101))] := hl
  refine lv_bipush (v := 16) hx hb dX8_readDistrict_0 (by decide) ?_
  refine lv_istore_n (lv' := [(2, .int 16), (0, .ref (ad 111)), (1, .ref (ad 101))]) hx hb dX8_readDistrict_2 rfl hl (by decide) rfl (fun ls hl => ?_)
  refine lv_aload_n hx hb dX8_readDistrict_3 rfl (lv_at hl 2 rfl) ?_
  refine k_ldcS (i := 20) (text := "else") S rfl dX8_readDistrict_4 ?_
  refine k_callV (n := 1) (As := [.ref (K.1 20)]) (rest := []) (st1 := .int (kIw 20 s r) :: []) (k := 101) (ci := 8) S hG hL (hlv.f (by decide) (by decide)) rfl rfl (c_X7_isWord s r hlv  20 (by decide) (hB)) gX8_readDistrict_X7_isWord rfl ⟨rfl, rfl⟩ (by decide +kernel) ⟨Nat.le_of_ble_eq_true rfl, Nat.le_of_ble_eq_true rfl⟩ rfl hl.1 rfl (Nat.le_of_ble_eq_true rfl) dX8_readDistrict_6 ⟨Nat.zero_le _, Nat.zero_le _⟩ (rfl) (fun H locs hG hL => ?_)
  refine lv_if_ne (tgt := 44) hx hb dX8_readDistrict_9 (by decide) (fun c9 => ?_) (fun c9 => ?_)
  ·
    refine lv_aload_n hx hb dX8_readDistrict_44 rfl (lv_at hl 1 rfl) ?_
    refine lv_iload_n hx hb dX8_readDistrict_45 rfl (lv_at hl 0 rfl) ?_
    refine k_callV (n := 1) (As := [.int 16]) (rest := []) (st1 := .int (r 102 (Int32.toNatClampNeg 16)) :: []) (k := 111) (ci := 9) S hG hL (hlv.f (by decide) (by decide)) rfl rfl (c_X8_sizeOf111 s r hlv  16 ) gX8_readDistrict_X8_sizeOf rfl ⟨rfl, rfl⟩ (by decide +kernel) ⟨Nat.le_of_ble_eq_true rfl, Nat.le_of_ble_eq_true rfl⟩ rfl hl.1 rfl (Nat.le_of_ble_eq_true rfl) dX8_readDistrict_46 ⟨Nat.zero_le _, Nat.zero_le _⟩ (by rw [kSd_in (by decide) (by decide)]; rfl) (fun H locs hG hL => ?_)
    refine lv_if_ne (tgt := 56) hx hb dX8_readDistrict_49 (by decide) (fun c49 => ?_) (fun c49 => ?_)
    ·
      refine lv_iconst (v := (-1)) hx hb dX8_readDistrict_56 (by decide) ?_
      exact g_iret S.1 hr hlocks hG hL (congrArg (fun z => some (Value.int z)) (by simp only [rdD, eq_false c9, eq_false c49, if_true, if_false])) (congr (congrArg (kJ ce0 ad K.2.2.1 cI cB cO cR) (by simp only [rdD, eq_false c9, eq_false c49, if_true, if_false])) (by rfl)) dX8_readDistrict_57
    ·
      refine lv_iload_n hx hb dX8_readDistrict_52 rfl (lv_at hl 0 rfl) ?_
      refine lv_goto (tgt := 57) hx hb dX8_readDistrict_53 (by decide) ?_
      exact g_iret S.1 hr hlocks hG hL (congrArg (fun z => some (Value.int z)) (by simp only [rdD, eq_false c9, eq_true c49, if_true, if_false])) (congr (congrArg (kJ ce0 ad K.2.2.1 cI cB cO cR) (by simp only [rdD, eq_false c9, eq_true c49, if_true, if_false])) (by rfl)) dX8_readDistrict_57
  ·
    refine lv_aload_n hx hb dX8_readDistrict_12 rfl (lv_at hl 2 rfl) ?_
    refine k_ldcS (i := 21) (text := "in") S rfl dX8_readDistrict_13 ?_
    refine k_callV (n := 1) (As := [.ref (K.1 21)]) (rest := []) (st1 := .int (kIw 21 s r) :: []) (k := 101) (ci := 8) S hG hL (hlv.f (by decide) (by decide)) rfl rfl (c_X7_isWord s r hlv  21 (by decide) (hB)) gX8_readDistrict_X7_isWord rfl ⟨rfl, rfl⟩ (by decide +kernel) ⟨Nat.le_of_ble_eq_true rfl, Nat.le_of_ble_eq_true rfl⟩ rfl hl.1 rfl (Nat.le_of_ble_eq_true rfl) dX8_readDistrict_15 ⟨Nat.zero_le _, Nat.zero_le _⟩ (rfl) (fun H locs hG hL => ?_)
    refine lv_if_ne (tgt := 23) hx hb dX8_readDistrict_18 (by decide) (fun c18 => ?_) (fun c18 => ?_)
    ·
      refine lv_aload_n hx hb dX8_readDistrict_23 rfl (lv_at hl 2 rfl) ?_
      refine k_callV (n := 0) (As := []) (rest := []) (st1 := []) (k := 101) (ci := 8) S hG hL (hlv.f (by decide) (by decide)) rfl rfl (c_X7_advance s r hlv   (hB.1) (hT)) gX8_readDistrict_X7_advance rfl ⟨rfl, rfl⟩ (by decide +kernel) ⟨Nat.le_of_ble_eq_true rfl, Nat.le_of_ble_eq_true rfl⟩ rfl hl.1 rfl (Nat.le_of_ble_eq_true rfl) dX8_readDistrict_24 ⟨Nat.zero_le _, Nat.zero_le _⟩ (rfl) (fun H locs hG hL => ?_)
      refine lv_aload_n hx hb dX8_readDistrict_27 rfl (lv_at hl 2 rfl) ?_
      refine lv_iconst (v := 0) hx hb dX8_readDistrict_28 (by decide) ?_
      refine lv_bipush (v := 15) hx hb dX8_readDistrict_29 (by decide) ?_
      refine k_callV (n := 2) (As := [.int 0, .int 15]) (rest := []) (st1 := .int (kNw 0 15 (adS s r) r) :: []) (k := 101) (ci := 8) S hG hL (hlv.f (by decide) (by decide)) rfl rfl (c_X7_isNumberWithin (adS s r) r (hlv.ad r)  0 15 (ad_W hB.1)) gX8_readDistrict_X7_isNumberWithin rfl ⟨rfl, rfl⟩ (by decide +kernel) ⟨Nat.le_of_ble_eq_true rfl, Nat.le_of_ble_eq_true rfl⟩ rfl hl.1 rfl (Nat.le_of_ble_eq_true rfl) dX8_readDistrict_31 ⟨Nat.zero_le _, Nat.zero_le _⟩ (rfl) (fun H locs hG hL => ?_)
      refine lv_if_ne (tgt := 39) hx hb dX8_readDistrict_34 (by decide) (fun c34 => ?_) (fun c34 => ?_)
      ·
        refine lv_aload_n hx hb dX8_readDistrict_39 rfl (lv_at hl 2 rfl) ?_
        refine k_callV (n := 0) (As := []) (rest := []) (st1 := .int (vVa (adS s r) r) :: []) (k := 101) (ci := 8) S hG hL (hlv.f (by decide) (by decide)) rfl rfl (c_X7_value (adS s r) r (hlv.ad r)   (ad_W hB.1)) gX8_readDistrict_X7_value rfl ⟨rfl, rfl⟩ (by decide +kernel) ⟨Nat.le_of_ble_eq_true rfl, Nat.le_of_ble_eq_true rfl⟩ rfl hl.1 rfl (Nat.le_of_ble_eq_true rfl) dX8_readDistrict_40 ⟨Nat.zero_le _, Nat.zero_le _⟩ (rfl) (fun H locs hG hL => ?_)
        refine lv_istore_n (lv' := [(2, .int (vVa (adS s r) r)), (0, .ref (ad 111)), (1, .ref (ad 101))]) hx hb dX8_readDistrict_43 rfl hl (by decide) rfl (fun ls hl => ?_)
        refine lv_aload_n hx hb dX8_readDistrict_44 rfl (lv_at hl 1 rfl) ?_
        refine lv_iload_n hx hb dX8_readDistrict_45 rfl (lv_at hl 0 rfl) ?_
        refine k_callV (n := 1) (As := [.int (vVa (adS s r) r)]) (rest := []) (st1 := .int (r 102 (Int32.toNatClampNeg (vVa (adS s r) r))) :: []) (k := 111) (ci := 9) S hG hL (hlv.f (by decide) (by decide)) rfl rfl (c_X8_sizeOf111 (adS s r) r (hlv.ad r)  (vVa (adS s r) r) ) gX8_readDistrict_X8_sizeOf rfl ⟨rfl, rfl⟩ (by decide +kernel) ⟨Nat.le_of_ble_eq_true rfl, Nat.le_of_ble_eq_true rfl⟩ rfl hl.1 rfl (Nat.le_of_ble_eq_true rfl) dX8_readDistrict_46 ⟨Nat.zero_le _, Nat.zero_le _⟩ (by rw [kSd_in (kNw_16 c34).1 (kNw_16 c34).2]; rfl) (fun H locs hG hL => ?_)
        refine lv_if_ne (tgt := 56) hx hb dX8_readDistrict_49 (by decide) (fun c49 => ?_) (fun c49 => ?_)
        ·
          refine lv_iconst (v := (-1)) hx hb dX8_readDistrict_56 (by decide) ?_
          exact g_iret S.1 hr hlocks hG hL (congrArg (fun z => some (Value.int z)) (by simp only [rdD, eq_true c9, eq_false c18, eq_false c34, eq_false c49, if_true, if_false])) (congr (congrArg (kJ ce0 ad K.2.2.1 cI cB cO cR) (by simp only [rdD, eq_true c9, eq_false c18, eq_false c34, eq_false c49, if_true, if_false])) (by rfl)) dX8_readDistrict_57
        ·
          refine lv_iload_n hx hb dX8_readDistrict_52 rfl (lv_at hl 0 rfl) ?_
          refine lv_goto (tgt := 57) hx hb dX8_readDistrict_53 (by decide) ?_
          exact g_iret S.1 hr hlocks hG hL (congrArg (fun z => some (Value.int z)) (by simp only [rdD, eq_true c9, eq_false c18, eq_false c34, eq_true c49, if_true, if_false])) (congr (congrArg (kJ ce0 ad K.2.2.1 cI cB cO cR) (by simp only [rdD, eq_true c9, eq_false c18, eq_false c34, eq_true c49, if_true, if_false])) (by rfl)) dX8_readDistrict_57
      ·
        refine lv_iconst (v := (-1)) hx hb dX8_readDistrict_37 (by decide) ?_
        exact g_iret S.1 hr hlocks hG hL (congrArg (fun z => some (Value.int z)) (by simp only [rdD, eq_true c9, eq_false c18, eq_true c34, if_true, if_false])) (congr (congrArg (kJ ce0 ad K.2.2.1 cI cB cO cR) (by simp only [rdD, eq_true c9, eq_false c18, eq_true c34, if_true, if_false])) (by rfl)) dX8_readDistrict_38
    ·
      refine lv_iconst (v := (-1)) hx hb dX8_readDistrict_21 (by decide) ?_
      exact g_iret S.1 hr hlocks hG hL (congrArg (fun z => some (Value.int z)) (by simp only [rdD, eq_true c9, eq_true c18, if_true, if_false])) (congr (congrArg (kJ ce0 ad K.2.2.1 cI cB cO cR) (by simp only [rdD, eq_true c9, eq_true c18, if_true, if_false])) (by rfl)) dX8_readDistrict_22
