set_option maxHeartbeats 400000 in
set_option maxRecDepth 100000 in
theorem c_J6_bitCount_0f7a4 {l : Launch} (x : Int32)  : pMet l yJ6_bitCount_0f7a4 wsJ6_bitCount_0f7a4 0 0 [.int x] (some (.int (kBc x))) := by
  refine Met.ofW (cc := cJ6_bitCount_0f7a4) (maxL := 1) (ret := (some .int)) (by decide) rfl ?_
  intro p0 e0 s0 m0 args below meth c0 s₁ B hml hv
  obtain ⟨rfl, -⟩ := hv
  have hx := B.exec
  have hb := B.bytes
  have hr := B.returns
  have hts := atoms_spec (ws := wsJ6_bitCount_0f7a4) B.pre
  have hown : s0.vm.findClass RJ6 = some m0.cls := findClass_of_methodNamed B.named
  have hlocks := B.notSynchronized
  have S : CallFix p0 m0 c0 cJ6_bitCount_0f7a4 1 s0 _ wsJ6_bitCount_0f7a4 RJ6 := ⟨hx, hb, hml, hown, hts⟩
  have hl := lv_entry ([.int x]) (n := 1) (Nat.le_of_ble_eq_true rfl)
  rw [lg_entry_eq]
  generalize (lg_sl ([.int x]) ++ List.replicate (1 - (lg_sl ([.int x])).length) Slot.unset).toArray = ls at hl ⊢
  have hl : lv_has ls 1 [(0, .int x)] := hl
  refine lv_iload_n hx hb dJ6_bitCount_0f7a4_0 rfl (lv_at hl 0 rfl) ?_
  refine lv_iload_n hx hb dJ6_bitCount_0f7a4_1 rfl (lv_at hl 0 rfl) ?_
  refine lv_iconst (v := 1) hx hb dJ6_bitCount_0f7a4_2 (by decide) ?_
  refine lv_iushr hx hb dJ6_bitCount_0f7a4_3 rfl ?_
  refine lv_ldcw (v := 1431655765) hx hb hown (hts (.constant RJ6 265 1431655765) (by decide +kernel)) dJ6_bitCount_0f7a4_4 ?_
  refine lv_iand hx hb dJ6_bitCount_0f7a4_7 ?_
  refine lv_isub hx hb dJ6_bitCount_0f7a4_8 ?_
  refine lv_istore_n (lv' := [(0, .int (x - (((x.toUInt32 >>> (Int32.toUInt32 1 &&& Int32.toUInt32 31)).toInt32) &&& 1431655765)))]) hx hb dJ6_bitCount_0f7a4_9 rfl hl (by decide) rfl (fun ls hl => ?_)
  refine lv_iload_n hx hb dJ6_bitCount_0f7a4_10 rfl (lv_at hl 0 rfl) ?_
  refine lv_ldcw (v := 858993459) hx hb hown (hts (.constant RJ6 266 858993459) (by decide +kernel)) dJ6_bitCount_0f7a4_11 ?_
  refine lv_iand hx hb dJ6_bitCount_0f7a4_14 ?_
  refine lv_iload_n hx hb dJ6_bitCount_0f7a4_15 rfl (lv_at hl 0 rfl) ?_
  refine lv_iconst (v := 2) hx hb dJ6_bitCount_0f7a4_16 (by decide) ?_
  refine lv_iushr hx hb dJ6_bitCount_0f7a4_17 rfl ?_
  refine lv_ldcw (v := 858993459) hx hb hown (hts (.constant RJ6 266 858993459) (by decide +kernel)) dJ6_bitCount_0f7a4_18 ?_
  refine lv_iand hx hb dJ6_bitCount_0f7a4_21 ?_
  refine lv_iadd hx hb dJ6_bitCount_0f7a4_22 ?_
  refine lv_istore_n (lv' := [(0, .int (((x - (((x.toUInt32 >>> (Int32.toUInt32 1 &&& Int32.toUInt32 31)).toInt32) &&& 1431655765)) &&& 858993459) + ((((x - (((x.toUInt32 >>> (Int32.toUInt32 1 &&& Int32.toUInt32 31)).toInt32) &&& 1431655765)).toUInt32 >>> (Int32.toUInt32 2 &&& Int32.toUInt32 31)).toInt32) &&& 858993459)))]) hx hb dJ6_bitCount_0f7a4_23 rfl hl (by decide) rfl (fun ls hl => ?_)
  refine lv_iload_n hx hb dJ6_bitCount_0f7a4_24 rfl (lv_at hl 0 rfl) ?_
  refine lv_iload_n hx hb dJ6_bitCount_0f7a4_25 rfl (lv_at hl 0 rfl) ?_
  refine lv_iconst (v := 4) hx hb dJ6_bitCount_0f7a4_26 (by decide) ?_
  refine lv_iushr hx hb dJ6_bitCount_0f7a4_27 rfl ?_
  refine lv_iadd hx hb dJ6_bitCount_0f7a4_28 ?_
  refine lv_ldcw (v := 252645135) hx hb hown (hts (.constant RJ6 267 252645135) (by decide +kernel)) dJ6_bitCount_0f7a4_29 ?_
  refine lv_iand hx hb dJ6_bitCount_0f7a4_32 ?_
  refine lv_istore_n (lv' := [(0, .int (((((x - (((x.toUInt32 >>> (Int32.toUInt32 1 &&& Int32.toUInt32 31)).toInt32) &&& 1431655765)) &&& 858993459) + ((((x - (((x.toUInt32 >>> (Int32.toUInt32 1 &&& Int32.toUInt32 31)).toInt32) &&& 1431655765)).toUInt32 >>> (Int32.toUInt32 2 &&& Int32.toUInt32 31)).toInt32) &&& 858993459)) + (((((x - (((x.toUInt32 >>> (Int32.toUInt32 1 &&& Int32.toUInt32 31)).toInt32) &&& 1431655765)) &&& 858993459) + ((((x - (((x.toUInt32 >>> (Int32.toUInt32 1 &&& Int32.toUInt32 31)).toInt32) &&& 1431655765)).toUInt32 >>> (Int32.toUInt32 2 &&& Int32.toUInt32 31)).toInt32) &&& 858993459)).toUInt32 >>> (Int32.toUInt32 4 &&& Int32.toUInt32 31)).toInt32)) &&& 252645135))]) hx hb dJ6_bitCount_0f7a4_33 rfl hl (by decide) rfl (fun ls hl => ?_)
  refine lv_iload_n hx hb dJ6_bitCount_0f7a4_34 rfl (lv_at hl 0 rfl) ?_
  refine lv_iload_n hx hb dJ6_bitCount_0f7a4_35 rfl (lv_at hl 0 rfl) ?_
  refine lv_bipush (v := 8) hx hb dJ6_bitCount_0f7a4_36 (by decide) ?_
  refine lv_iushr hx hb dJ6_bitCount_0f7a4_38 rfl ?_
  refine lv_iadd hx hb dJ6_bitCount_0f7a4_39 ?_
  refine lv_istore_n (lv' := [(0, .int ((((((x - (((x.toUInt32 >>> (Int32.toUInt32 1 &&& Int32.toUInt32 31)).toInt32) &&& 1431655765)) &&& 858993459) + ((((x - (((x.toUInt32 >>> (Int32.toUInt32 1 &&& Int32.toUInt32 31)).toInt32) &&& 1431655765)).toUInt32 >>> (Int32.toUInt32 2 &&& Int32.toUInt32 31)).toInt32) &&& 858993459)) + (((((x - (((x.toUInt32 >>> (Int32.toUInt32 1 &&& Int32.toUInt32 31)).toInt32) &&& 1431655765)) &&& 858993459) + ((((x - (((x.toUInt32 >>> (Int32.toUInt32 1 &&& Int32.toUInt32 31)).toInt32) &&& 1431655765)).toUInt32 >>> (Int32.toUInt32 2 &&& Int32.toUInt32 31)).toInt32) &&& 858993459)).toUInt32 >>> (Int32.toUInt32 4 &&& Int32.toUInt32 31)).toInt32)) &&& 252645135) + (((((((x - (((x.toUInt32 >>> (Int32.toUInt32 1 &&& Int32.toUInt32 31)).toInt32) &&& 1431655765)) &&& 858993459) + ((((x - (((x.toUInt32 >>> (Int32.toUInt32 1 &&& Int32.toUInt32 31)).toInt32) &&& 1431655765)).toUInt32 >>> (Int32.toUInt32 2 &&& Int32.toUInt32 31)).toInt32) &&& 858993459)) + (((((x - (((x.toUInt32 >>> (Int32.toUInt32 1 &&& Int32.toUInt32 31)).toInt32) &&& 1431655765)) &&& 858993459) + ((((x - (((x.toUInt32 >>> (Int32.toUInt32 1 &&& Int32.toUInt32 31)).toInt32) &&& 1431655765)).toUInt32 >>> (Int32.toUInt32 2 &&& Int32.toUInt32 31)).toInt32) &&& 858993459)).toUInt32 >>> (Int32.toUInt32 4 &&& Int32.toUInt32 31)).toInt32)) &&& 252645135).toUInt32 >>> (Int32.toUInt32 8 &&& Int32.toUInt32 31)).toInt32)))]) hx hb dJ6_bitCount_0f7a4_40 rfl hl (by decide) rfl (fun ls hl => ?_)
  refine lv_iload_n hx hb dJ6_bitCount_0f7a4_41 rfl (lv_at hl 0 rfl) ?_
  refine lv_iload_n hx hb dJ6_bitCount_0f7a4_42 rfl (lv_at hl 0 rfl) ?_
  refine lv_bipush (v := 16) hx hb dJ6_bitCount_0f7a4_43 (by decide) ?_
  refine lv_iushr hx hb dJ6_bitCount_0f7a4_45 rfl ?_
  refine lv_iadd hx hb dJ6_bitCount_0f7a4_46 ?_
  refine lv_istore_n (lv' := [(0, .int (((((((x - (((x.toUInt32 >>> (Int32.toUInt32 1 &&& Int32.toUInt32 31)).toInt32) &&& 1431655765)) &&& 858993459) + ((((x - (((x.toUInt32 >>> (Int32.toUInt32 1 &&& Int32.toUInt32 31)).toInt32) &&& 1431655765)).toUInt32 >>> (Int32.toUInt32 2 &&& Int32.toUInt32 31)).toInt32) &&& 858993459)) + (((((x - (((x.toUInt32 >>> (Int32.toUInt32 1 &&& Int32.toUInt32 31)).toInt32) &&& 1431655765)) &&& 858993459) + ((((x - (((x.toUInt32 >>> (Int32.toUInt32 1 &&& Int32.toUInt32 31)).toInt32) &&& 1431655765)).toUInt32 >>> (Int32.toUInt32 2 &&& Int32.toUInt32 31)).toInt32) &&& 858993459)).toUInt32 >>> (Int32.toUInt32 4 &&& Int32.toUInt32 31)).toInt32)) &&& 252645135) + (((((((x - (((x.toUInt32 >>> (Int32.toUInt32 1 &&& Int32.toUInt32 31)).toInt32) &&& 1431655765)) &&& 858993459) + ((((x - (((x.toUInt32 >>> (Int32.toUInt32 1 &&& Int32.toUInt32 31)).toInt32) &&& 1431655765)).toUInt32 >>> (Int32.toUInt32 2 &&& Int32.toUInt32 31)).toInt32) &&& 858993459)) + (((((x - (((x.toUInt32 >>> (Int32.toUInt32 1 &&& Int32.toUInt32 31)).toInt32) &&& 1431655765)) &&& 858993459) + ((((x - (((x.toUInt32 >>> (Int32.toUInt32 1 &&& Int32.toUInt32 31)).toInt32) &&& 1431655765)).toUInt32 >>> (Int32.toUInt32 2 &&& Int32.toUInt32 31)).toInt32) &&& 858993459)).toUInt32 >>> (Int32.toUInt32 4 &&& Int32.toUInt32 31)).toInt32)) &&& 252645135).toUInt32 >>> (Int32.toUInt32 8 &&& Int32.toUInt32 31)).toInt32)) + ((((((((x - (((x.toUInt32 >>> (Int32.toUInt32 1 &&& Int32.toUInt32 31)).toInt32) &&& 1431655765)) &&& 858993459) + ((((x - (((x.toUInt32 >>> (Int32.toUInt32 1 &&& Int32.toUInt32 31)).toInt32) &&& 1431655765)).toUInt32 >>> (Int32.toUInt32 2 &&& Int32.toUInt32 31)).toInt32) &&& 858993459)) + (((((x - (((x.toUInt32 >>> (Int32.toUInt32 1 &&& Int32.toUInt32 31)).toInt32) &&& 1431655765)) &&& 858993459) + ((((x - (((x.toUInt32 >>> (Int32.toUInt32 1 &&& Int32.toUInt32 31)).toInt32) &&& 1431655765)).toUInt32 >>> (Int32.toUInt32 2 &&& Int32.toUInt32 31)).toInt32) &&& 858993459)).toUInt32 >>> (Int32.toUInt32 4 &&& Int32.toUInt32 31)).toInt32)) &&& 252645135) + (((((((x - (((x.toUInt32 >>> (Int32.toUInt32 1 &&& Int32.toUInt32 31)).toInt32) &&& 1431655765)) &&& 858993459) + ((((x - (((x.toUInt32 >>> (Int32.toUInt32 1 &&& Int32.toUInt32 31)).toInt32) &&& 1431655765)).toUInt32 >>> (Int32.toUInt32 2 &&& Int32.toUInt32 31)).toInt32) &&& 858993459)) + (((((x - (((x.toUInt32 >>> (Int32.toUInt32 1 &&& Int32.toUInt32 31)).toInt32) &&& 1431655765)) &&& 858993459) + ((((x - (((x.toUInt32 >>> (Int32.toUInt32 1 &&& Int32.toUInt32 31)).toInt32) &&& 1431655765)).toUInt32 >>> (Int32.toUInt32 2 &&& Int32.toUInt32 31)).toInt32) &&& 858993459)).toUInt32 >>> (Int32.toUInt32 4 &&& Int32.toUInt32 31)).toInt32)) &&& 252645135).toUInt32 >>> (Int32.toUInt32 8 &&& Int32.toUInt32 31)).toInt32)).toUInt32 >>> (Int32.toUInt32 16 &&& Int32.toUInt32 31)).toInt32)))]) hx hb dJ6_bitCount_0f7a4_47 rfl hl (by decide) rfl (fun ls hl => ?_)
  refine lv_iload_n hx hb dJ6_bitCount_0f7a4_48 rfl (lv_at hl 0 rfl) ?_
  refine lv_bipush (v := 63) hx hb dJ6_bitCount_0f7a4_49 (by decide) ?_
  refine lv_iand hx hb dJ6_bitCount_0f7a4_51 ?_
  exact p_iret S hr hlocks (congrArg (fun z => some (Value.int z)) (by simp only [kBc, kB5, kB4, kB3, kB2, kB1, u32])) dJ6_bitCount_0f7a4_52

set_option maxHeartbeats 400000 in
set_option maxRecDepth 100000 in
theorem c_X9_greatestMatching {l : Launch} {D : va_G} {cI cZ cB cO cR cJ : ClassId} {Hb : Heap} {K : kTx} {lv : Nat → Prop} {ad : Nat → Nat} {ce0 : Nat → va_E} (s : Nat → Int32) (r : Nat → Nat → Int32) (hlv : kL lv s) (m : Int32) (h0 : 0 ≤ m.toInt) (h1 : m.toInt ≤ 8) : kMet l D cI cZ cB cO cR cJ Hb K lv ad ce0 yX9_greatestMatching wsX9_greatestMatching 1 24 [.ref (ad 109), .int m] s r (some (.int (gmO r m (2 ^ (m).toNatClampNeg)))) s r := by
  refine Met.ofW (cc := cX9_greatestMatching) (maxL := 7) (ret := (some .int)) (by decide) rfl ?_
  intro p0 e0 s0 m0 args below meth c0 s₁ B hml hv
  obtain ⟨rfl, hG, hK, hE⟩ := hv
  have hx := B.exec
  have hb := B.bytes
  have hr := B.returns
  have hts := atoms_spec (ws := wsX9_greatestMatching) B.pre
  have hown : s0.vm.findClass RX9 = some m0.cls := findClass_of_methodNamed B.named
  have hlocks := B.notSynchronized
  have S : kX p0 m0 c0 cX9_greatestMatching 7 s0 _ wsX9_greatestMatching RX9 D (tyL cI cZ cB cO cR cJ) Hb K := ⟨⟨hx, hb, hml, hown, hts⟩, hK, hE⟩
  have hL : gL Hb [] := gL.nil
  have hH := hG.2.2.2.2
  have hl := lv_entry ([.ref (ad 109), .int m]) (n := 7) (Nat.le_of_ble_eq_true rfl)
  rw [lg_entry_eq]
  generalize (lg_sl ([.ref (ad 109), .int m]) ++ List.replicate (7 - (lg_sl ([.ref (ad 109), .int m])).length) Slot.unset).toArray = ls at hl ⊢
  have hl : lv_has ls 7 [(0, .ref (ad 109)), (1, .int m)] := hl
  have hp8 : 2 ^ m.toNatClampNeg ≤ 256 := Nat.pow_le_pow_right (by decide) (t_ixl (k := 8) h0 h1)
  have hsh : (1 : Int32) <<< (m &&& 31) = nI (2 ^ m.toNatClampNeg) := by { have q := mo_sh m.toNatClampNeg (by have q := t_ixl (k := 8) h0 h1; omega); rw [t_ixn h0] at q; exact q }
  refine lv_iload_n hx hb dX9_greatestMatching_0 rfl (lv_at hl 1 rfl) ?_
  refine lv_istore_n (lv' := [(2, .int m), (0, .ref (ad 109)), (1, .int m)]) hx hb dX9_greatestMatching_1 rfl hl (by decide) rfl (fun ls hl => ?_)
  refine lv_iconst (v := 0) hx hb dX9_greatestMatching_2 (by decide) ?_
  refine lv_istore_n (lv' := [(3, .int 0), (2, .int m), (0, .ref (ad 109)), (1, .int m)]) hx hb dX9_greatestMatching_3 rfl hl (by decide) rfl (fun ls hl => ?_)
  have LO : ∀ (n : Nat) (i : Nat) (x : Int32) (g : Int32) (ex : x = nI i) (hi : i ≤ 2 ^ m.toNatClampNeg) (hn : 2 ^ m.toNatClampNeg + 1 ≤ i + n) (hg : g = gmO r m i), ∀ (H : Heap) (locs : List Loc), gW D Hb lv ad (kJ ce0 ad K.2.2.1 cI cB cO cR s r) H → gL Hb locs → ∀ (ls : Array Slot), lv_has ls 7 [(0, .ref (ad 109)), (1, .int m), (2, .int g), (3, .int x)] → W p0 l e0 (headSpec wsX9_greatestMatching { frames := 1, cells := 0, slots := 0, locals := 24 }).room s0 m0 ([.ref (ad 109), .int m] : List Value).toArray below meth c0 H locs 0 0 (MQ below (gQ D Hb lv ad (some (.int (gmO r m (2 ^ (m).toNatClampNeg)))) (kJ ce0 ad K.2.2.1 cI cB cO cR s r)) ([.ref (ad 109), .int m] : List Value).toArray s0 0 0 (gA Hb)) (F0 m0 4 ls []) := by
    intro n
    induction n with
    | zero => intro i x g ex hi hn hg; exact absurd hn (by omega)
    | succ n ih =>
      intro i x g ex hi hn hg H locs hG hL ls hl
      refine lv_iload_n hx hb dX9_greatestMatching_4 rfl (lv_at hl 3 rfl) ?_
      refine lv_iconst (v := 1) hx hb dX9_greatestMatching_5 (by decide) ?_
      refine lv_iload_n hx hb dX9_greatestMatching_6 rfl (lv_at hl 1 rfl) ?_
      refine lv_ishl hx hb dX9_greatestMatching_7 ?_
      refine lv_icmp_ge (tgt := 80) hx hb dX9_greatestMatching_8 (by decide) (fun c8 => ?_) (fun c8 => ?_)
      ·
        have hEq : i = 2 ^ m.toNatClampNeg := by { have q := c8; rw [hsh, ex] at q; have q2 := (nle (by omega) (by omega)).mp q; omega }
        refine lv_iload_n hx hb dX9_greatestMatching_80 rfl (lv_at hl 2 rfl) ?_
        exact g_iret S.1 hr hlocks hG hL (congrArg (fun z => some (Value.int z)) (by rw [hg, hEq])) (congr (congrArg (kJ ce0 ad K.2.2.1 cI cB cO cR) (by rfl)) (by rfl)) dX9_greatestMatching_81
      ·
        have hlt : i < 2 ^ m.toNatClampNeg := by { have q := c8; rw [hsh, ex] at q; have q2 := (not_congr (nle (by omega) (by omega))).mp q; omega }
        refine lv_iload_n hx hb dX9_greatestMatching_11 rfl (lv_at hl 1 rfl) ?_
        refine lv_istore (lv' := [(4, .int m), (0, .ref (ad 109)), (1, .int m), (2, .int g), (3, .int x)]) hx hb dX9_greatestMatching_12 hl (by decide) rfl (fun ls hl => ?_)
        refine lv_iconst (v := 0) hx hb dX9_greatestMatching_14 (by decide) ?_
        refine lv_istore (lv' := [(5, .int 0), (4, .int m), (0, .ref (ad 109)), (1, .int m), (2, .int g), (3, .int x)]) hx hb dX9_greatestMatching_15 hl (by decide) rfl (fun ls hl => ?_)
        refine lv_iconst (v := 0) hx hb dX9_greatestMatching_17 (by decide) ?_
        refine lv_istore (lv' := [(6, .int 0), (5, .int 0), (4, .int m), (0, .ref (ad 109)), (1, .int m), (2, .int g), (3, .int x)]) hx hb dX9_greatestMatching_18 hl (by decide) rfl (fun ls hl => ?_)
        have LI : ∀ (n2 : Nat) (i2 : Nat) (x2 : Int32) (o : Int32) (w : Int32) (ex2 : x2 = nI i2) (hi2 : i2 ≤ (m).toNatClampNeg) (hn2 : (m).toNatClampNeg + 1 ≤ i2 + n2) (ho : o = (gmI r m x i2).1) (hw : w = (gmI r m x i2).2), ∀ (H : Heap) (locs : List Loc), gW D Hb lv ad (kJ ce0 ad K.2.2.1 cI cB cO cR s r) H → gL Hb locs → ∀ (ls : Array Slot), lv_has ls 7 [(0, .ref (ad 109)), (1, .int m), (2, .int g), (3, .int x), (4, .int o), (5, .int w), (6, .int x2)] → W p0 l e0 (headSpec wsX9_greatestMatching { frames := 1, cells := 0, slots := 0, locals := 24 }).room s0 m0 ([.ref (ad 109), .int m] : List Value).toArray below meth c0 H locs 0 0 (MQ below (gQ D Hb lv ad (some (.int (gmO r m (2 ^ (m).toNatClampNeg)))) (kJ ce0 ad K.2.2.1 cI cB cO cR s r)) ([.ref (ad 109), .int m] : List Value).toArray s0 0 0 (gA Hb)) (F0 m0 20 ls []) := by
          intro n2
          induction n2 with
          | zero => intro i2 x2 o w ex2 hi2 hn2 ho hw; exact absurd hn2 (by omega)
          | succ n2 ih2 =>
            intro i2 x2 o w ex2 hi2 hn2 ho hw H locs hG hL ls hl
            have hbd2 : (m).toNatClampNeg ≤ 8 := t_ixl h0 h1; have hii2 : Int32.toNatClampNeg x2 = i2 := by { rw [ex2]; exact ix_nI (by omega) }
            refine lv_iload hx hb dX9_greatestMatching_20 (lv_at hl 6 rfl) ?_
            refine lv_iload_n hx hb dX9_greatestMatching_22 rfl (lv_at hl 1 rfl) ?_
            refine lv_icmp_ge (tgt := 61) hx hb dX9_greatestMatching_23 (by decide) (fun c23 => ?_) (fun c23 => ?_)
            ·
              have hEq2 := cl_ge h0 hi2 (ex2 ▸ c23)
              refine lv_iload_n hx hb dX9_greatestMatching_61 rfl (lv_at hl 2 rfl) ?_
              refine lv_iload hx hb dX9_greatestMatching_62 (lv_at hl 4 rfl) ?_
              refine lv_iload hx hb dX9_greatestMatching_64 (lv_at hl 5 rfl) ?_
              refine m_callP (n := 1) (As := [.int w]) (rest := [.int o, .int g]) (st1 := .int (kBc w) :: [.int o, .int g]) S.1 (c_J6_bitCount_0f7a4 w) gX9_greatestMatching_J6_bitCount_0f7a4 rfl (by decide +kernel) ⟨Nat.le_of_ble_eq_true rfl, Nat.le_of_ble_eq_true rfl⟩ rfl hl.1 rfl (Nat.le_of_ble_eq_true rfl) dX9_greatestMatching_66 ⟨Nat.zero_le _, Nat.zero_le _⟩ (rfl) ?_
              refine lv_iadd hx hb dX9_greatestMatching_69 ?_
              refine va_mmin hx hb (hml.trans hl.1.symm) hown (hts (.methodLink RX9 181 Lib.Math.min.name) (by decide +kernel)) (hts (.static Lib.Math.min.name) (by decide +kernel)) (hts (.initialized "java/lang/Math") (by decide +kernel)) (hts (.code Lib.Math.min.name Lib.Math.min.code 2 (some .int)) (by decide +kernel)) (Nat.le_of_ble_eq_true rfl) (Nat.le_of_ble_eq_true rfl) (Nat.zero_le _) (Nat.zero_le _) dX9_greatestMatching_70 ?_
              refine lv_istore_n (lv' := [(2, .int (if (o + (kBc w)) < g then (o + (kBc w)) else g)), (0, .ref (ad 109)), (1, .int m), (3, .int x), (4, .int o), (5, .int w), (6, .int x2)]) hx hb dX9_greatestMatching_73 rfl hl (by decide) rfl (fun ls hl => ?_)
              refine lv_iinc (v := x + 1) (lv' := [(3, .int (x + 1)), (2, .int (if (o + (kBc w)) < g then (o + (kBc w)) else g)), (0, .ref (ad 109)), (1, .int m), (4, .int o), (5, .int w), (6, .int x2)]) hx hb dX9_greatestMatching_74 hl (k := 3) rfl (by rfl) (by decide) rfl (fun ls hl => ?_)
              refine lv_goto (tgt := 4) hx hb dX9_greatestMatching_77 (by decide) ?_
              exact ih  (i + 1) (x + 1) (if (o + (kBc w)) < g then (o + (kBc w)) else g) (by rw [ex]; exact nI_1 i) (hlt) (by omega) (by rw [hg]; simp only [gmO, gmV, ← ex, ← hEq2, ← ho, ← hw]) _ _ hG hL _ (lv_sub hl [2, 3, 1, 0] rfl)
            ·
              have hlt2 := cl_lt h0 hi2 (ex2 ▸ c23)
              refine lv_iload hx hb dX9_greatestMatching_26 (lv_at hl 6 rfl) ?_
              refine lv_aload_n hx hb dX9_greatestMatching_28 rfl (lv_at hl 0 rfl) ?_
              refine g_alen (v := 8) S.1 S.2.1 hG 109 (hlv.f (by decide) (by decide)) 0 rfl rfl rfl dX9_greatestMatching_29 ?_
              refine lv_icmp_ge (tgt := 61) hx hb dX9_greatestMatching_30 (by decide) (fun c30 => absurd c30 (by rw [t_le, ex2, nI_toInt (by omega)]; have z : (8 : Int32).toInt = 8 := rfl; omega)) (fun c30 => ?_)
              refine lv_iload_n hx hb dX9_greatestMatching_33 rfl (lv_at hl 3 rfl) ?_
              refine lv_iload hx hb dX9_greatestMatching_34 (lv_at hl 6 rfl) ?_
              refine lv_ishr hx hb dX9_greatestMatching_36 ?_
              refine lv_iconst (v := 1) hx hb dX9_greatestMatching_37 (by decide) ?_
              refine lv_iand hx hb dX9_greatestMatching_38 ?_
              refine lv_iconst (v := 1) hx hb dX9_greatestMatching_39 (by decide) ?_
              refine lv_icmp_ne (tgt := 55) hx hb dX9_greatestMatching_40 (by decide) (fun c40 => ?_) (fun c40 => ?_)
              ·
                refine lv_iinc (v := x2 + 1) (lv' := [(6, .int (x2 + 1)), (0, .ref (ad 109)), (1, .int m), (2, .int g), (3, .int x), (4, .int o), (5, .int w)]) hx hb dX9_greatestMatching_55 hl (k := 6) rfl (by rfl) (by decide) rfl (fun ls hl => ?_)
                refine lv_goto (tgt := 20) hx hb dX9_greatestMatching_58 (by decide) ?_
                exact ih2  (i2 + 1) (x2 + 1) o w (by rw [ex2]; exact nI_1 i2) (hlt2) (by omega) (by rw [ho]; simp only [gmI, ← ex2, eq_false c8, eq_false c23, eq_false c30, eq_false c40, ↓reduceIte]) (by rw [hw]; simp only [gmI, ← ex2, eq_false c8, eq_false c23, eq_false c30, eq_false c40, ↓reduceIte]) _ _ hG hL _ (lv_sub hl [1, 2, 3, 4, 5, 6, 0] rfl)
              ·
                refine lv_iinc (v := o + (-1)) (lv' := [(4, .int (o + (-1))), (0, .ref (ad 109)), (1, .int m), (2, .int g), (3, .int x), (5, .int w), (6, .int x2)]) hx hb dX9_greatestMatching_43 hl (k := 4) rfl (by rfl) (by decide) rfl (fun ls hl => ?_)
                refine lv_iload hx hb dX9_greatestMatching_46 (lv_at hl 5 rfl) ?_
                refine lv_aload_n hx hb dX9_greatestMatching_48 rfl (lv_at hl 1 rfl) ?_
                refine lv_iload hx hb dX9_greatestMatching_49 (lv_at hl 6 rfl) ?_
                refine k_ild (j := i2) (v := r 100 i2) S hG 109 (hlv.f (by decide) (by decide)) rfl hii2 (show vp_in x2 8 from by rw [ex2]; exact vp_in_i (by omega) (by omega)) (rfl) dX9_greatestMatching_51 ?_
                refine lv_ior hx hb dX9_greatestMatching_52 ?_
                refine lv_istore (lv' := [(5, .int (w ||| (r 100 i2))), (4, .int (o + (-1))), (0, .ref (ad 109)), (1, .int m), (2, .int g), (3, .int x), (6, .int x2)]) hx hb dX9_greatestMatching_53 hl (by decide) rfl (fun ls hl => ?_)
                refine lv_iinc (v := x2 + 1) (lv' := [(6, .int (x2 + 1)), (5, .int (w ||| (r 100 i2))), (4, .int (o + (-1))), (0, .ref (ad 109)), (1, .int m), (2, .int g), (3, .int x)]) hx hb dX9_greatestMatching_55 hl (k := 6) rfl (by rfl) (by decide) rfl (fun ls hl => ?_)
                refine lv_goto (tgt := 20) hx hb dX9_greatestMatching_58 (by decide) ?_
                exact ih2  (i2 + 1) (x2 + 1) (o + (-1)) (w ||| (r 100 i2)) (by rw [ex2]; exact nI_1 i2) (hlt2) (by omega) (by rw [ho]; simp only [gmI, ← ex2, eq_false c8, eq_false c23, eq_false c30, eq_true c40, ↓reduceIte]) (by rw [hw]; simp only [gmI, ← ex2, eq_false c8, eq_false c23, eq_false c30, eq_true c40, ↓reduceIte]) _ _ hG hL _ (lv_sub hl [3, 4, 5, 6, 2, 1, 0] rfl)
        exact LI ((m).toNatClampNeg + 1) 0 0 m 0 (rfl) (Nat.zero_le _) (by omega) (rfl) (rfl) _ _ hG hL _ (lv_sub hl [3, 4, 5, 6, 2, 1, 0] rfl)
  exact LO (2 ^ m.toNatClampNeg + 1) 0 0 m (rfl) (Nat.zero_le _) (by omega) (rfl) _ _ hG hL _ (lv_sub hl [2, 3, 1, 0] rfl)
