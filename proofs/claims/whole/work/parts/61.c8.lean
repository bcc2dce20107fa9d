/-! words -/
theorem nJ_in {j : Nat} {x : Int32} {n : Nat} (ex : x = nI j) (h : j < n) (hn : n ≤ 5000) : vp_in x n := by rw [ex]; exact vp_in_i h hn
def iwF (w : Nat) (t : Nat → Int32) (a : Nat) : Nat → Nat → Int32
  | 0, _ => 1
  | n + 1, i => if kLen.getD w 0 ≤ i then 1 else if t (a + i) = kCh w i then iwF w t a n (i + 1) else 0
def kIw (w : Nat) (s : Nat → Int32) (r : Nat → Nat → Int32) : Int32 := if s 103 = 1 then (if s 102 - s 101 = nI (kLen.getD w 0) then iwF w (kB8 r) (s 101).toNatClampNeg (1 + kLen.getD w 0) 0 else 0) else 0
theorem iwF_01 (w : Nat) (t : Nat → Int32) (a : Nat) : ∀ n i, iwF w t a n i = 0 ∨ iwF w t a n i = 1
  | 0, _ => Or.inr rfl
  | n + 1, i => by
    unfold iwF
    split
    · exact Or.inr rfl
    · split
      · exact iwF_01 w t a n (i + 1)
      · exact Or.inl rfl
theorem kIw_01 (w : Nat) (s : Nat → Int32) (r : Nat → Nat → Int32) : kIw w s r = 0 ∨ kIw w s r = 1 := by
  unfold kIw
  split
  · split
    · exact iwF_01 ..
    · exact Or.inl rfl
  · exact Or.inl rfl

set_option maxHeartbeats 4000000 in
set_option maxRecDepth 100000 in
theorem c_J3_ref {l : Launch} (i : Int32) (n : Int32) (v : Nat) (h0 : 0 ≤ i.toInt) (h1 : i.toInt < n.toInt) : pMet l yJ3_checkIndex_8e157 wsJ3_checkIndex_8e157 0 0 [.int i, .int n, .ref v] (some (.int (i))) := by
  refine Met.ofW (cc := cJ3_checkIndex_8e157) (maxL := 3) (ret := (some .int)) (by decide) rfl ?_
  intro p0 e0 s0 m0 args below meth c0 s₁ B hml hv
  obtain ⟨rfl, -⟩ := hv
  have hx := B.exec
  have hb := B.bytes
  have hr := B.returns
  have hts := atoms_spec (ws := wsJ3_checkIndex_8e157) B.pre
  have hown : s0.vm.findClass RJ3 = some m0.cls := findClass_of_methodNamed B.named
  have hlocks := B.notSynchronized
  have S : CallFix p0 m0 c0 cJ3_checkIndex_8e157 3 s0 _ wsJ3_checkIndex_8e157 RJ3 := ⟨hx, hb, hml, hown, hts⟩
  have hl := lv_entry ([.int i, .int n, .ref v]) (n := 3) (Nat.le_of_ble_eq_true rfl)
  rw [lg_entry_eq]
  generalize (lg_sl ([.int i, .int n, .ref v]) ++ List.replicate (3 - (lg_sl ([.int i, .int n, .ref v])).length) Slot.unset).toArray = ls at hl ⊢
  have hl : lv_has ls 3 [(0, .int i), (1, .int n), (2, .ref v)] := hl
  refine lv_iload_n hx hb dJ3_checkIndex_8e157_0 rfl (lv_at hl 0 rfl) ?_
  refine lv_if_lt (tgt := 9) hx hb dJ3_checkIndex_8e157_1 (by decide) (fun c1 => absurd c1 (by rw [t_lt]; have z : (0 : Int32).toInt = 0 := rfl; omega)) (fun c1 => ?_)
  refine lv_iload_n hx hb dJ3_checkIndex_8e157_4 rfl (lv_at hl 0 rfl) ?_
  refine lv_iload_n hx hb dJ3_checkIndex_8e157_5 rfl (lv_at hl 1 rfl) ?_
  refine lv_icmp_lt (tgt := 16) hx hb dJ3_checkIndex_8e157_6 (by decide) (fun c6 => ?_) (fun c6 => absurd c6 (by rw [t_lt]; exact fun z => z h1))
  refine lv_iload_n hx hb dJ3_checkIndex_8e157_16 rfl (lv_at hl 0 rfl) ?_
  exact p_iret S hr hlocks (congrArg (fun z => some (Value.int z)) (by rfl)) dJ3_checkIndex_8e157_17

set_option maxHeartbeats 4000000 in
set_option maxRecDepth 100000 in
theorem c_J0_checkIndex_df160 {l : Launch} {D : va_G} {cI cZ cB cO cR cJ : ClassId} {Hb : Heap} {K : kTx} {lv : Nat → Prop} {ad : Nat → Nat} {ce0 : Nat → va_E} (s : Nat → Int32) (r : Nat → Nat → Int32) (hlv : kL lv s) (i : Int32) (n : Int32) (h0 : 0 ≤ i.toInt) (h1 : i.toInt < n.toInt) : kMet l D cI cZ cB cO cR cJ Hb K lv ad ce0 yJ0_checkIndex_df160 wsJ0_checkIndex_df160 1 22 [.int i, .int n] s r none s r := by
  refine Met.ofW (cc := cJ0_checkIndex_df160) (maxL := 2) (ret := none) (by decide) rfl ?_
  intro p0 e0 s0 m0 args below meth c0 s₁ B hml hv
  obtain ⟨rfl, hG, hK, hE⟩ := hv
  have hx := B.exec
  have hb := B.bytes
  have hr := B.returns
  have hts := atoms_spec (ws := wsJ0_checkIndex_df160) B.pre
  have hown : s0.vm.findClass RJ0 = some m0.cls := findClass_of_methodNamed B.named
  have hlocks := B.notSynchronized
  have S : kX p0 m0 c0 cJ0_checkIndex_df160 2 s0 _ wsJ0_checkIndex_df160 RJ0 D (tyL cI cZ cB cO cR cJ) Hb K := ⟨⟨hx, hb, hml, hown, hts⟩, hK, hE⟩
  have hL : gL Hb [] := gL.nil
  have hH := hG.2.2.2.2
  have hl := lv_entry ([.int i, .int n]) (n := 2) (Nat.le_of_ble_eq_true rfl)
  rw [lg_entry_eq]
  generalize (lg_sl ([.int i, .int n]) ++ List.replicate (2 - (lg_sl ([.int i, .int n])).length) Slot.unset).toArray = ls at hl ⊢
  have hl : lv_has ls 2 [(0, .int i), (1, .int n)] := hl
  refine lv_iload_n hx hb dJ0_checkIndex_df160_0 rfl (lv_at hl 0 rfl) ?_
  refine lv_iload_n hx hb dJ0_checkIndex_df160_1 rfl (lv_at hl 1 rfl) ?_
  rcases S.2.2.fmt with hz9 | ⟨t9, hz9⟩
  ·
    refine k_gets (v := .null) S hH hG hL hz9 (hts (.fieldLink RJ0 1053 "jdk/internal/util/Preconditions" "SIOOBE_FORMATTER" "Ljava/util/function/BiFunction;") (by decide +kernel)) dJ0_checkIndex_df160_2 ?_
    refine m_callP (n := 3) (As := [.int i, .int n, .null]) (rest := []) (st1 := .int i :: []) S.1 (c_J3_checkIndex_8e157 i n  (h0) (h1)) gJ0_checkIndex_df160_J3_checkIndex_8e157 rfl (by decide +kernel) ⟨Nat.le_of_ble_eq_true rfl, Nat.le_of_ble_eq_true rfl⟩ rfl hl.1 rfl (Nat.le_of_ble_eq_true rfl) dJ0_checkIndex_df160_5 ⟨Nat.zero_le _, Nat.zero_le _⟩ (rfl) ?_
    refine lv_pop hx hb dJ0_checkIndex_df160_8 rfl ?_
    exact g_vret S.1 hr hlocks hG hL rfl (congr (congrArg (kJ ce0 ad K.2.2.1 cI cB cO cR) (by rfl)) (by rfl)) dJ0_checkIndex_df160_9
  ·
    refine k_gets (v := .ref t9) S hH hG hL hz9 (hts (.fieldLink RJ0 1053 "jdk/internal/util/Preconditions" "SIOOBE_FORMATTER" "Ljava/util/function/BiFunction;") (by decide +kernel)) dJ0_checkIndex_df160_2 ?_
    refine m_callP (n := 3) (As := [.int i, .int n, .ref t9]) (rest := []) (st1 := .int i :: []) S.1 (c_J3_ref i n t9 (h0) (h1)) gJ0_checkIndex_df160_J3_checkIndex_8e157 rfl (by decide +kernel) ⟨Nat.le_of_ble_eq_true rfl, Nat.le_of_ble_eq_true rfl⟩ rfl hl.1 rfl (Nat.le_of_ble_eq_true rfl) dJ0_checkIndex_df160_5 ⟨Nat.zero_le _, Nat.zero_le _⟩ (rfl) ?_
    refine lv_pop hx hb dJ0_checkIndex_df160_8 rfl ?_
    exact g_vret S.1 hr hlocks hG hL rfl (congr (congrArg (kJ ce0 ad K.2.2.1 cI cB cO cR) (by rfl)) (by rfl)) dJ0_checkIndex_df160_9

set_option maxHeartbeats 4000000 in
set_option maxRecDepth 100000 in
theorem c_J1_charAt_3b067 {l : Launch} {D : va_G} {cI cZ cB cO cR cJ : ClassId} {Hb : Heap} {K : kTx} {lv : Nat → Prop} {ad : Nat → Nat} {ce0 : Nat → va_E} (s : Nat → Int32) (r : Nat → Nat → Int32) (hlv : kL lv s) (w : Nat) (hw : w < 30) (x : Int32) (j : Nat) (ex : x = nI j) (hj : j < kLen.getD w 0) : kMet l D cI cZ cB cO cR cJ Hb K lv ad ce0 yJ1_charAt_3b067 wsJ1_charAt_3b067 2 43 [.ref (K.2.1 w), .int x] s r (some (.int (kCh w j))) s r := by
  refine Met.ofW (cc := cJ1_charAt_3b067) (maxL := 2) (ret := (some .char)) (by decide) rfl ?_
  intro p0 e0 s0 m0 args below meth c0 s₁ B hml hv
  obtain ⟨rfl, hG, hK, hE⟩ := hv
  have hx := B.exec
  have hb := B.bytes
  have hr := B.returns
  have hts := atoms_spec (ws := wsJ1_charAt_3b067) B.pre
  have hown : s0.vm.findClass RJ1 = some m0.cls := findClass_of_methodNamed B.named
  have hlocks := B.notSynchronized
  have S : kX p0 m0 c0 cJ1_charAt_3b067 2 s0 _ wsJ1_charAt_3b067 RJ1 D (tyL cI cZ cB cO cR cJ) Hb K := ⟨⟨hx, hb, hml, hown, hts⟩, hK, hE⟩
  have hL : gL Hb [] := gL.nil
  have hH := hG.2.2.2.2
  have hl := lv_entry ([.ref (K.2.1 w), .int x]) (n := 2) (Nat.le_of_ble_eq_true rfl)
  rw [lg_entry_eq]
  generalize (lg_sl ([.ref (K.2.1 w), .int x]) ++ List.replicate (2 - (lg_sl ([.ref (K.2.1 w), .int x])).length) Slot.unset).toArray = ls at hl ⊢
  have hl : lv_has ls 2 [(0, .ref (K.2.1 w)), (1, .int x)] := hl
  have hii : Int32.toNatClampNeg x = j := by { rw [ex]; exact ix_nI (by have q := kLen_all w hw; omega) }
  refine lv_iload_n hx hb dJ1_charAt_3b067_0 rfl (lv_at hl 1 rfl) ?_
  refine lv_aload_n hx hb dJ1_charAt_3b067_1 rfl (lv_at hl 0 rfl) ?_
  refine k_tlen S hH hG hL (S.2.2.str.1 w hw).2.2.2 dJ1_charAt_3b067_2 ?_
  refine k_callS (n := 2) (As := [.int x, .int (nI (kLen.getD w 0))]) (rest := []) (st1 := []) S hG hL (c_J0_checkIndex_df160 s r hlv  x (nI (kLen.getD w 0)) (by rw [ex, nI_toInt (by have q := kLen_all w hw; omega)]; omega) (by rw [ex, nI_toInt (by have q := kLen_all w hw; omega), nI_toInt (by have q := kLen_all w hw; omega)]; omega)) gJ1_charAt_3b067_J0_checkIndex_df160 rfl ⟨rfl, rfl⟩ (by decide +kernel) ⟨Nat.le_of_ble_eq_true rfl, Nat.le_of_ble_eq_true rfl⟩ rfl hl.1 rfl (Nat.le_of_ble_eq_true rfl) dJ1_charAt_3b067_3 ⟨Nat.zero_le _, Nat.zero_le _⟩ (rfl) (fun H locs hG hL => ?_)
  refine lv_aload_n hx hb dJ1_charAt_3b067_6 rfl (lv_at hl 0 rfl) ?_
  refine lv_iload_n hx hb dJ1_charAt_3b067_7 rfl (lv_at hl 1 rfl) ?_
  refine k_tb (v := .int (kCh w (Int32.toNatClampNeg x))) S hH hG hL (S.2.2.str.1 w hw).2.2.2 (nJ_in ex hj (by have q := kLen_all w hw; omega)) rfl dJ1_charAt_3b067_8 ?_
  refine lv_sipush (v := 255) hx hb dJ1_charAt_3b067_9 (by decide) ?_
  refine lv_iand hx hb dJ1_charAt_3b067_12 ?_
  refine lv_i2c hx hb dJ1_charAt_3b067_13 rfl ?_
  exact g_yret S.1 hr hlocks (by rw [hii, (kCh_all w hw j hj).1]; exact (kCh_all w hw j hj).2) hG hL (congrArg (fun z => some (Value.int z)) (by rw [hii, (kCh_all w hw j hj).1])) (congr (congrArg (kJ ce0 ad K.2.2.1 cI cB cO cR) (by rfl)) (by rfl)) dJ1_charAt_3b067_14

set_option maxHeartbeats 4000000 in
set_option maxRecDepth 100000 in
theorem c_J0_isLatin1_aae02 {l : Launch} {D : va_G} {cI cZ cB cO cR cJ : ClassId} {Hb : Heap} {K : kTx} {lv : Nat → Prop} {ad : Nat → Nat} {ce0 : Nat → va_E} (s : Nat → Int32) (r : Nat → Nat → Int32) (hlv : kL lv s) (w : Nat) (hw : w < 30)  : kMet l D cI cZ cB cO cR cJ Hb K lv ad ce0 yJ0_isLatin1_aae02 wsJ0_isLatin1_aae02 0 0 [.ref (K.1 w)] s r (some (.int (1))) s r := by
  refine Met.ofW (cc := cJ0_isLatin1_aae02) (maxL := 1) (ret := (some .boolean)) (by decide) rfl ?_
  intro p0 e0 s0 m0 args below meth c0 s₁ B hml hv
  obtain ⟨rfl, hG, hK, hE⟩ := hv
  have hx := B.exec
  have hb := B.bytes
  have hr := B.returns
  have hts := atoms_spec (ws := wsJ0_isLatin1_aae02) B.pre
  have hown : s0.vm.findClass RJ0 = some m0.cls := findClass_of_methodNamed B.named
  have hlocks := B.notSynchronized
  have S : kX p0 m0 c0 cJ0_isLatin1_aae02 1 s0 _ wsJ0_isLatin1_aae02 RJ0 D (tyL cI cZ cB cO cR cJ) Hb K := ⟨⟨hx, hb, hml, hown, hts⟩, hK, hE⟩
  have hL : gL Hb [] := gL.nil
  have hH := hG.2.2.2.2
  have hl := lv_entry ([.ref (K.1 w)]) (n := 1) (Nat.le_of_ble_eq_true rfl)
  rw [lg_entry_eq]
  generalize (lg_sl ([.ref (K.1 w)]) ++ List.replicate (1 - (lg_sl ([.ref (K.1 w)])).length) Slot.unset).toArray = ls at hl ⊢
  have hl : lv_has ls 1 [(0, .ref (K.1 w))] := hl
  refine k_gets (v := .int 1) S hH hG hL S.2.2.com (hts (.fieldLink RJ0 38 "java/lang/String" "COMPACT_STRINGS" "Z") (by decide +kernel)) dJ0_isLatin1_aae02_0 ?_
  refine lv_if_eq (tgt := 17) hx hb dJ0_isLatin1_aae02_3 (by decide) (fun c => absurd c (by decide)) (fun _ => ?_)
  refine lv_aload_n hx hb dJ0_isLatin1_aae02_6 rfl (lv_at hl 0 rfl) ?_
  refine k_strf (v := .int 0) S hH hG hL (S.2.2.str.1 w hw).2.1 (hts (.fieldLink RJ0 15 "java/lang/String" "coder" "B") (by decide +kernel)) dJ0_isLatin1_aae02_7 ?_
  refine lv_if_ne (tgt := 17) hx hb dJ0_isLatin1_aae02_10 (by decide) (fun c => absurd c (by decide)) (fun _ => ?_)
  refine lv_iconst (v := 1) hx hb dJ0_isLatin1_aae02_13 (by decide) ?_
  refine lv_goto (tgt := 18) hx hb dJ0_isLatin1_aae02_14 (by decide) ?_
  exact g_zret S.1 hr hlocks (by decide) hG hL (congrArg (fun z => some (Value.int z)) (by rfl)) (congr (congrArg (kJ ce0 ad K.2.2.1 cI cB cO cR) (by rfl)) (by rfl)) dJ0_isLatin1_aae02_18

set_option maxHeartbeats 4000000 in
set_option maxRecDepth 100000 in
theorem c_J0_coder_7d493 {l : Launch} {D : va_G} {cI cZ cB cO cR cJ : ClassId} {Hb : Heap} {K : kTx} {lv : Nat → Prop} {ad : Nat → Nat} {ce0 : Nat → va_E} (s : Nat → Int32) (r : Nat → Nat → Int32) (hlv : kL lv s) (w : Nat) (hw : w < 30)  : kMet l D cI cZ cB cO cR cJ Hb K lv ad ce0 yJ0_coder_7d493 wsJ0_coder_7d493 0 0 [.ref (K.1 w)] s r (some (.int (0))) s r := by
  refine Met.ofW (cc := cJ0_coder_7d493) (maxL := 1) (ret := (some .byte)) (by decide) rfl ?_
  intro p0 e0 s0 m0 args below meth c0 s₁ B hml hv
  obtain ⟨rfl, hG, hK, hE⟩ := hv
  have hx := B.exec
  have hb := B.bytes
  have hr := B.returns
  have hts := atoms_spec (ws := wsJ0_coder_7d493) B.pre
  have hown : s0.vm.findClass RJ0 = some m0.cls := findClass_of_methodNamed B.named
  have hlocks := B.notSynchronized
  have S : kX p0 m0 c0 cJ0_coder_7d493 1 s0 _ wsJ0_coder_7d493 RJ0 D (tyL cI cZ cB cO cR cJ) Hb K := ⟨⟨hx, hb, hml, hown, hts⟩, hK, hE⟩
  have hL : gL Hb [] := gL.nil
  have hH := hG.2.2.2.2
  have hl := lv_entry ([.ref (K.1 w)]) (n := 1) (Nat.le_of_ble_eq_true rfl)
  rw [lg_entry_eq]
  generalize (lg_sl ([.ref (K.1 w)]) ++ List.replicate (1 - (lg_sl ([.ref (K.1 w)])).length) Slot.unset).toArray = ls at hl ⊢
  have hl : lv_has ls 1 [(0, .ref (K.1 w))] := hl
  refine k_gets (v := .int 1) S hH hG hL S.2.2.com (hts (.fieldLink RJ0 38 "java/lang/String" "COMPACT_STRINGS" "Z") (by decide +kernel)) dJ0_coder_7d493_0 ?_
  refine lv_if_eq (tgt := 13) hx hb dJ0_coder_7d493_3 (by decide) (fun c => absurd c (by decide)) (fun _ => ?_)
  refine lv_aload_n hx hb dJ0_coder_7d493_6 rfl (lv_at hl 0 rfl) ?_
  refine k_strf (v := .int 0) S hH hG hL (S.2.2.str.1 w hw).2.1 (hts (.fieldLink RJ0 15 "java/lang/String" "coder" "B") (by decide +kernel)) dJ0_coder_7d493_7 ?_
  refine lv_goto (tgt := 14) hx hb dJ0_coder_7d493_10 (by decide) ?_
  exact g_yret S.1 hr hlocks (by decide) hG hL (congrArg (fun z => some (Value.int z)) (by rfl)) (congr (congrArg (kJ ce0 ad K.2.2.1 cI cB cO cR) (by rfl)) (by rfl)) dJ0_coder_7d493_14

set_option maxHeartbeats 4000000 in
set_option maxRecDepth 100000 in
theorem c_J0_length_8abf5 {l : Launch} {D : va_G} {cI cZ cB cO cR cJ : ClassId} {Hb : Heap} {K : kTx} {lv : Nat → Prop} {ad : Nat → Nat} {ce0 : Nat → va_E} (s : Nat → Int32) (r : Nat → Nat → Int32) (hlv : kL lv s) (w : Nat) (hw : w < 30)  : kMet l D cI cZ cB cO cR cJ Hb K lv ad ce0 yJ0_length_8abf5 wsJ0_length_8abf5 1 20 [.ref (K.1 w)] s r (some (.int (nI (kLen.getD w 0)))) s r := by
  refine Met.ofW (cc := cJ0_length_8abf5) (maxL := 1) (ret := (some .int)) (by decide) rfl ?_
  intro p0 e0 s0 m0 args below meth c0 s₁ B hml hv
  obtain ⟨rfl, hG, hK, hE⟩ := hv
  have hx := B.exec
  have hb := B.bytes
  have hr := B.returns
  have hts := atoms_spec (ws := wsJ0_length_8abf5) B.pre
  have hown : s0.vm.findClass RJ0 = some m0.cls := findClass_of_methodNamed B.named
  have hlocks := B.notSynchronized
  have S : kX p0 m0 c0 cJ0_length_8abf5 1 s0 _ wsJ0_length_8abf5 RJ0 D (tyL cI cZ cB cO cR cJ) Hb K := ⟨⟨hx, hb, hml, hown, hts⟩, hK, hE⟩
  have hL : gL Hb [] := gL.nil
  have hH := hG.2.2.2.2
  have hl := lv_entry ([.ref (K.1 w)]) (n := 1) (Nat.le_of_ble_eq_true rfl)
  rw [lg_entry_eq]
  generalize (lg_sl ([.ref (K.1 w)]) ++ List.replicate (1 - (lg_sl ([.ref (K.1 w)])).length) Slot.unset).toArray = ls at hl ⊢
  have hl : lv_has ls 1 [(0, .ref (K.1 w))] := hl
  refine lv_aload_n hx hb dJ0_length_8abf5_0 rfl (lv_at hl 0 rfl) ?_
  refine k_strf (v := .ref (K.2.1 w)) S hH hG hL (S.2.2.str.1 w hw).2.2.1 (hts (.fieldLink RJ0 9 "java/lang/String" "value" "[B") (by decide +kernel)) dJ0_length_8abf5_1 ?_
  refine k_tlen S hH hG hL (S.2.2.str.1 w hw).2.2.2 dJ0_length_8abf5_4 ?_
  refine lv_aload_n hx hb dJ0_length_8abf5_5 rfl (lv_at hl 0 rfl) ?_
  refine k_callT (n := 0) (As := []) (rest := [.int (nI (kLen.getD w 0))]) (st1 := .int 0 :: [.int (nI (kLen.getD w 0))]) (i := w) S hG hL hw (c_J0_coder_7d493 s r hlv w hw  ) gJ0_length_8abf5_J0_coder_7d493 rfl ⟨rfl, rfl⟩ (by decide +kernel) ⟨Nat.le_of_ble_eq_true rfl, Nat.le_of_ble_eq_true rfl⟩ rfl hl.1 rfl (Nat.le_of_ble_eq_true rfl) dJ0_length_8abf5_6 ⟨Nat.zero_le _, Nat.zero_le _⟩ (rfl) (fun H locs hG hL => ?_)
  refine lv_ishr hx hb dJ0_length_8abf5_9 ?_
  exact g_iret S.1 hr hlocks hG hL (congrArg (fun z => some (Value.int z)) (by rw [sh0])) (congr (congrArg (kJ ce0 ad K.2.2.1 cI cB cO cR) (by rfl)) (by rfl)) dJ0_length_8abf5_10

set_option maxHeartbeats 4000000 in
set_option maxRecDepth 100000 in
theorem c_J0_charAt_5068e {l : Launch} {D : va_G} {cI cZ cB cO cR cJ : ClassId} {Hb : Heap} {K : kTx} {lv : Nat → Prop} {ad : Nat → Nat} {ce0 : Nat → va_E} (s : Nat → Int32) (r : Nat → Nat → Int32) (hlv : kL lv s) (w : Nat) (hw : w < 30) (x : Int32) (j : Nat) (ex : x = nI j) (hj : j < kLen.getD w 0) : kMet l D cI cZ cB cO cR cJ Hb K lv ad ce0 yJ0_charAt_5068e wsJ0_charAt_5068e 3 64 [.ref (K.1 w), .int x] s r (some (.int (kCh w j))) s r := by
  refine Met.ofW (cc := cJ0_charAt_5068e) (maxL := 2) (ret := (some .char)) (by decide) rfl ?_
  intro p0 e0 s0 m0 args below meth c0 s₁ B hml hv
  obtain ⟨rfl, hG, hK, hE⟩ := hv
  have hx := B.exec
  have hb := B.bytes
  have hr := B.returns
  have hts := atoms_spec (ws := wsJ0_charAt_5068e) B.pre
  have hown : s0.vm.findClass RJ0 = some m0.cls := findClass_of_methodNamed B.named
  have hlocks := B.notSynchronized
  have S : kX p0 m0 c0 cJ0_charAt_5068e 2 s0 _ wsJ0_charAt_5068e RJ0 D (tyL cI cZ cB cO cR cJ) Hb K := ⟨⟨hx, hb, hml, hown, hts⟩, hK, hE⟩
  have hL : gL Hb [] := gL.nil
  have hH := hG.2.2.2.2
  have hl := lv_entry ([.ref (K.1 w), .int x]) (n := 2) (Nat.le_of_ble_eq_true rfl)
  rw [lg_entry_eq]
  generalize (lg_sl ([.ref (K.1 w), .int x]) ++ List.replicate (2 - (lg_sl ([.ref (K.1 w), .int x])).length) Slot.unset).toArray = ls at hl ⊢
  have hl : lv_has ls 2 [(0, .ref (K.1 w)), (1, .int x)] := hl
  refine lv_aload_n hx hb dJ0_charAt_5068e_0 rfl (lv_at hl 0 rfl) ?_
  refine k_callT (n := 0) (As := []) (rest := []) (st1 := .int 1 :: []) (i := w) S hG hL hw (c_J0_isLatin1_aae02 s r hlv w hw  ) gJ0_charAt_5068e_J0_isLatin1_aae02 rfl ⟨rfl, rfl⟩ (by decide +kernel) ⟨Nat.le_of_ble_eq_true rfl, Nat.le_of_ble_eq_true rfl⟩ rfl hl.1 rfl (Nat.le_of_ble_eq_true rfl) dJ0_charAt_5068e_1 ⟨Nat.zero_le _, Nat.zero_le _⟩ (rfl) (fun H locs hG hL => ?_)
  refine lv_if_eq (tgt := 16) hx hb dJ0_charAt_5068e_4 (by decide) (fun c => absurd c (by decide)) (fun _ => ?_)
  refine lv_aload_n hx hb dJ0_charAt_5068e_7 rfl (lv_at hl 0 rfl) ?_
  refine k_strf (v := .ref (K.2.1 w)) S hH hG hL (S.2.2.str.1 w hw).2.2.1 (hts (.fieldLink RJ0 9 "java/lang/String" "value" "[B") (by decide +kernel)) dJ0_charAt_5068e_8 ?_
  refine lv_iload_n hx hb dJ0_charAt_5068e_11 rfl (lv_at hl 1 rfl) ?_
  refine k_callS (n := 2) (As := [.ref (K.2.1 w), .int x]) (rest := []) (st1 := .int (kCh w j) :: []) S hG hL (c_J1_charAt_3b067 s r hlv  w hw x (j) (ex) (hj)) gJ0_charAt_5068e_J1_charAt_3b067 rfl ⟨rfl, rfl⟩ (by decide +kernel) ⟨Nat.le_of_ble_eq_true rfl, Nat.le_of_ble_eq_true rfl⟩ rfl hl.1 rfl (Nat.le_of_ble_eq_true rfl) dJ0_charAt_5068e_12 ⟨Nat.zero_le _, Nat.zero_le _⟩ (rfl) (fun H locs hG hL => ?_)
  exact g_yret S.1 hr hlocks ((kCh_all w hw j hj).2) hG hL (congrArg (fun z => some (Value.int z)) (by rfl)) (congr (congrArg (kJ ce0 ad K.2.2.1 cI cB cO cR) (by rfl)) (by rfl)) dJ0_charAt_5068e_15

set_option maxHeartbeats 4000000 in
set_option maxRecDepth 100000 in
theorem c_X7_isWord {l : Launch} {D : va_G} {cI cZ cB cO cR cJ : ClassId} {Hb : Heap} {K : kTx} {lv : Nat → Prop} {ad : Nat → Nat} {ce0 : Nat → va_E} (s : Nat → Int32) (r : Nat → Nat → Int32) (hlv : kL lv s) (w : Nat) (hw : w < 30) (hB : tW s) : kMet l D cI cZ cB cO cR cJ Hb K lv ad ce0 yX7_isWord wsX7_isWord 4 85 [.ref (ad 101), .ref (K.1 w)] s r (some (.int (kIw w s r))) s r := by
  refine Met.ofW (cc := cX7_isWord) (maxL := 3) (ret := (some .boolean)) (by decide) rfl ?_
  intro p0 e0 s0 m0 args below meth c0 s₁ B hml hv
  obtain ⟨rfl, hG, hK, hE⟩ := hv
  have hx := B.exec
  have hb := B.bytes
  have hr := B.returns
  have hts := atoms_spec (ws := wsX7_isWord) B.pre
  have hown : s0.vm.findClass RX7 = some m0.cls := findClass_of_methodNamed B.named
  have hlocks := B.notSynchronized
  have S : kX p0 m0 c0 cX7_isWord 3 s0 _ wsX7_isWord RX7 D (tyL cI cZ cB cO cR cJ) Hb K := ⟨⟨hx, hb, hml, hown, hts⟩, hK, hE⟩
  have hL : gL Hb [] := gL.nil
  have hH := hG.2.2.2.2
  have hl := lv_entry ([.ref (ad 101), .ref (K.1 w)]) (n := 3) (Nat.le_of_ble_eq_true rfl)
  rw [lg_entry_eq]
  generalize (lg_sl ([.ref (ad 101), .ref (K.1 w)]) ++ List.replicate (3 - (lg_sl ([.ref (ad 101), .ref (K.1 w)])).length) Slot.unset).toArray = ls at hl ⊢
  have hl : lv_has ls 3 [(0, .ref (ad 101)), (1, .ref (K.1 w))] := hl
  have hk40 := kLen_all w hw
  have h1z := hB.2.1
  have h2z := hB.1.2.2.1
  have h400 : (s 102).toInt ≤ 400 := by { have q := hB.1.2.2.2; have q2 := hB.1.2.1; omega }
  have h101 : (s 101).toInt ≤ 400 := by { have q := hB.2.2.1; omega }
  refine lv_aload_n hx hb dX7_isWord_0 rfl (lv_at hl 0 rfl) ?_
  refine k_gi (C := RX7) (T := TX7) (N := 5) (ci := 8) (v := s 103) S hG (fun w h => List.mem_cons_of_mem _ (List.mem_append_right _ h)) 101 (hlv.f (by decide) (by decide)) rfl rfl 4 (by decide) rfl (hts (.fieldLink RX7 25 "SwarmLine$Tape" "kind" "I") (by decide +kernel)) rfl (rfl) dX7_isWord_1 ?_
  refine lv_iconst (v := 1) hx hb dX7_isWord_4 (by decide) ?_
  refine lv_icmp_ne (tgt := 24) hx hb dX7_isWord_5 (by decide) (fun c5 => ?_) (fun c5 => ?_)
  ·
    refine lv_iconst (v := 0) hx hb dX7_isWord_24 (by decide) ?_
    exact g_zret S.1 hr hlocks (by decide) hG hL (congrArg (fun z => some (Value.int z)) (by simp only [kIw, eq_false c5, if_true, if_false])) (congr (congrArg (kJ ce0 ad K.2.2.1 cI cB cO cR) (by rfl)) (by rfl)) dX7_isWord_25
  ·
    refine lv_aload_n hx hb dX7_isWord_8 rfl (lv_at hl 0 rfl) ?_
    refine k_gi (C := RX7) (T := TX7) (N := 5) (ci := 8) (v := s 102) S hG (fun w h => List.mem_cons_of_mem _ (List.mem_append_right _ h)) 101 (hlv.f (by decide) (by decide)) rfl rfl 3 (by decide) rfl (hts (.fieldLink RX7 22 "SwarmLine$Tape" "behind" "I") (by decide +kernel)) rfl (rfl) dX7_isWord_9 ?_
    refine lv_aload_n hx hb dX7_isWord_12 rfl (lv_at hl 0 rfl) ?_
    refine k_gi (C := RX7) (T := TX7) (N := 5) (ci := 8) (v := s 101) S hG (fun w h => List.mem_cons_of_mem _ (List.mem_append_right _ h)) 101 (hlv.f (by decide) (by decide)) rfl rfl 2 (by decide) rfl (hts (.fieldLink RX7 19 "SwarmLine$Tape" "begin" "I") (by decide +kernel)) rfl (rfl) dX7_isWord_13 ?_
    refine lv_isub hx hb dX7_isWord_16 ?_
    refine lv_aload_n hx hb dX7_isWord_17 rfl (lv_at hl 1 rfl) ?_
    refine k_callT (n := 0) (As := []) (rest := [.int ((s 102) - (s 101))]) (st1 := .int (nI (kLen.getD w 0)) :: [.int ((s 102) - (s 101))]) (i := w) S hG hL hw (c_J0_length_8abf5 s r hlv w hw  ) gX7_isWord_J0_length_8abf5 rfl ⟨rfl, rfl⟩ (by decide +kernel) ⟨Nat.le_of_ble_eq_true rfl, Nat.le_of_ble_eq_true rfl⟩ rfl hl.1 rfl (Nat.le_of_ble_eq_true rfl) dX7_isWord_18 ⟨Nat.zero_le _, Nat.zero_le _⟩ (rfl) (fun H locs hG hL => ?_)
    refine lv_icmp_eq (tgt := 26) hx hb dX7_isWord_21 (by decide) (fun c21 => ?_) (fun c21 => ?_)
    ·
      refine lv_iconst (v := 0) hx hb dX7_isWord_26 (by decide) ?_
      refine lv_istore_n (lv' := [(2, .int 0), (0, .ref (ad 101)), (1, .ref (K.1 w))]) hx hb dX7_isWord_27 rfl hl (by decide) rfl (fun ls hl => ?_)
      have LP : ∀ (n : Nat) (i : Nat) (x : Int32) (ex : x = nI i) (hi : i ≤ kLen.getD w 0) (hn : kLen.getD w 0 + 1 ≤ i + n) (hF : iwF w (kB8 r) (s 101).toNatClampNeg n i = iwF w (kB8 r) (s 101).toNatClampNeg (1 + kLen.getD w 0) 0), ∀ (H : Heap) (locs : List Loc), gW D Hb lv ad (kJ ce0 ad K.2.2.1 cI cB cO cR s r) H → gL Hb locs → ∀ (ls : Array Slot), lv_has ls 3 [(0, .ref (ad 101)), (1, .ref (K.1 w)), (2, .int x)] → W p0 l e0 (headSpec wsX7_isWord { frames := 4, cells := 0, slots := 0, locals := 85 }).room s0 m0 ([.ref (ad 101), .ref (K.1 w)] : List Value).toArray below meth c0 H locs 0 0 (MQ below (gQ D Hb lv ad (some (.int (kIw w s r))) (kJ ce0 ad K.2.2.1 cI cB cO cR s r)) ([.ref (ad 101), .ref (K.1 w)] : List Value).toArray s0 0 0 (gA Hb)) (F0 m0 28 ls []) := by
        intro n
        induction n with
        | zero => intro i x ex hi hn hF; exact absurd hn (by omega)
        | succ n ih =>
          intro i x ex hi hn hF H locs hG hL ls hl
          have hii : Int32.toNatClampNeg x = i := by { rw [ex]; exact ix_nI (by omega) }; have haa : (s 101 + x).toInt = (s 101).toInt + i := by { have q1 := nI_toInt (show i < 2 ^ 31 by omega); rw [← ex] at q1; rw [t_add (by omega) (by omega), q1] }; have hjj : Int32.toNatClampNeg (s 101 + x) = (s 101).toNatClampNeg + i := by { have q1 := t_ix (x := s 101 + x) (by omega); have q2 := t_ix hB.2.1; omega }
          refine lv_iload_n hx hb dX7_isWord_28 rfl (lv_at hl 2 rfl) ?_
          refine lv_aload_n hx hb dX7_isWord_29 rfl (lv_at hl 1 rfl) ?_
          refine k_callT (n := 0) (As := []) (rest := [.int x]) (st1 := .int (nI (kLen.getD w 0)) :: [.int x]) (i := w) S hG hL hw (c_J0_length_8abf5 s r hlv w hw  ) gX7_isWord_J0_length_8abf5 rfl ⟨rfl, rfl⟩ (by decide +kernel) ⟨Nat.le_of_ble_eq_true rfl, Nat.le_of_ble_eq_true rfl⟩ rfl hl.1 rfl (Nat.le_of_ble_eq_true rfl) dX7_isWord_30 ⟨Nat.zero_le _, Nat.zero_le _⟩ (rfl) (fun H locs hG hL => ?_)
          refine lv_icmp_ge (tgt := 63) hx hb dX7_isWord_33 (by decide) (fun c33 => ?_) (fun c33 => ?_)
          ·
            have hge : kLen.getD w 0 ≤ i := (nle (by omega) (by omega)).mp (ex ▸ c33)
            refine lv_iconst (v := 1) hx hb dX7_isWord_63 (by decide) ?_
            exact g_zret S.1 hr hlocks (by decide) hG hL (congrArg (fun z => some (Value.int z)) (by simp only [kIw, eq_true c5, eq_true c21, if_true]; rw [← hF]; simp only [iwF, eq_true hge, ↓reduceIte])) (congr (congrArg (kJ ce0 ad K.2.2.1 cI cB cO cR) (by rfl)) (by rfl)) dX7_isWord_64
          ·
            have hlt : i < kLen.getD w 0 := by { have q := (not_congr (nle (by omega) (by omega))).mp (ex ▸ c33 : ¬ nI (kLen.getD w 0) ≤ nI i); omega }
            refine lv_aload_n hx hb dX7_isWord_36 rfl (lv_at hl 0 rfl) ?_
            refine k_ga (C := RX7) (T := TX7) (N := 5) (ci := 8) (v := .ref (ad 112)) S hG (fun w h => List.mem_cons_of_mem _ (List.mem_append_right _ h)) 101 (hlv.f (by decide) (by decide)) rfl rfl 0 (by decide) rfl (hts (.fieldLink RX7 11 "SwarmLine$Tape" "bytes" "[B") (by decide +kernel)) rfl dX7_isWord_37 ?_
            refine lv_aload_n hx hb dX7_isWord_40 rfl (lv_at hl 0 rfl) ?_
            refine k_gi (C := RX7) (T := TX7) (N := 5) (ci := 8) (v := s 101) S hG (fun w h => List.mem_cons_of_mem _ (List.mem_append_right _ h)) 101 (hlv.f (by decide) (by decide)) rfl rfl 2 (by decide) rfl (hts (.fieldLink RX7 19 "SwarmLine$Tape" "begin" "I") (by decide +kernel)) rfl (rfl) dX7_isWord_41 ?_
            refine lv_iload_n hx hb dX7_isWord_44 rfl (lv_at hl 2 rfl) ?_
            refine lv_iadd hx hb dX7_isWord_45 ?_
            refine k_bld (j := (s 101).toNatClampNeg + i) (v := (r 60 ((s 101).toNatClampNeg + i)).toInt8.toInt32) S hG 112 (hlv.f (by decide) (by decide)) rfl hjj (show vp_in ((s 101) + x) 400 from vp_in_t (by omega) (by have q := c21; rw [t_eq, t_sub (by omega) (by omega), nI_toInt (by omega)] at q; omega)) (rfl) dX7_isWord_46 ?_
            refine lv_aload_n hx hb dX7_isWord_47 rfl (lv_at hl 1 rfl) ?_
            refine lv_iload_n hx hb dX7_isWord_48 rfl (lv_at hl 2 rfl) ?_
            refine k_callT (n := 1) (As := [.int x]) (rest := [.int ((r 60 ((s 101).toNatClampNeg + i)).toInt8.toInt32)]) (st1 := .int (kCh w i) :: [.int ((r 60 ((s 101).toNatClampNeg + i)).toInt8.toInt32)]) (i := w) S hG hL hw (c_J0_charAt_5068e s r hlv w hw x (i) (ex) (hlt)) gX7_isWord_J0_charAt_5068e rfl ⟨rfl, rfl⟩ (by decide +kernel) ⟨Nat.le_of_ble_eq_true rfl, Nat.le_of_ble_eq_true rfl⟩ rfl hl.1 rfl (Nat.le_of_ble_eq_true rfl) dX7_isWord_49 ⟨Nat.zero_le _, Nat.zero_le _⟩ (rfl) (fun H locs hG hL => ?_)
            refine lv_icmp_eq (tgt := 57) hx hb dX7_isWord_52 (by decide) (fun c52 => ?_) (fun c52 => ?_)
            ·
              refine lv_iinc (v := x + 1) (lv' := [(2, .int (x + 1)), (0, .ref (ad 101)), (1, .ref (K.1 w))]) hx hb dX7_isWord_57 hl (k := 2) rfl (by rfl) (by decide) rfl (fun ls hl => ?_)
              refine lv_goto (tgt := 28) hx hb dX7_isWord_60 (by decide) ?_
              exact ih  (i + 1) (x + 1) (by rw [ex]; exact nI_1 i) (hlt) (by omega) (by rw [← hF]; simp only [iwF, eq_false (show ¬ kLen.getD w 0 ≤ i by omega), eq_true (show kB8 r ((s 101).toNatClampNeg + i) = kCh w i from c52), ↓reduceIte]) _ _ hG hL _ (lv_sub hl [1, 2, 0] rfl)
            ·
              refine lv_iconst (v := 0) hx hb dX7_isWord_55 (by decide) ?_
              exact g_zret S.1 hr hlocks (by decide) hG hL (congrArg (fun z => some (Value.int z)) (by simp only [kIw, eq_true c5, eq_true c21, if_true]; rw [← hF]; simp only [iwF, eq_false (show ¬ kLen.getD w 0 ≤ i by omega), eq_false (show ¬ kB8 r ((s 101).toNatClampNeg + i) = kCh w i from c52), ↓reduceIte])) (congr (congrArg (kJ ce0 ad K.2.2.1 cI cB cO cR) (by rfl)) (by rfl)) dX7_isWord_56
      exact LP (1 + kLen.getD w 0) 0 0 (rfl) (Nat.zero_le _) (by omega) (rfl) _ _ hG hL _ (lv_sub hl [1, 2, 0] rfl)
    ·
      refine lv_iconst (v := 0) hx hb dX7_isWord_24 (by decide) ?_
      exact g_zret S.1 hr hlocks (by decide) hG hL (congrArg (fun z => some (Value.int z)) (by simp only [kIw, eq_true c5, eq_false c21, if_true, if_false])) (congr (congrArg (kJ ce0 ad K.2.2.1 cI cB cO cR) (by rfl)) (by rfl)) dX7_isWord_25
