def km1 (s : Nat → Int32) (r0 : Nat → Nat → Int32) : Nat → Nat → Nat → (Nat → Nat → Int32) → Nat × (Nat → Nat → Int32)
  | 0, _, n, r => (n, r)
  | k + 1, c, n, r => if 8 ≤ n then (n, r) else if r0 41 c = 0 then km1 s r0 k (c + 1) (n + 1) (up2 r 100 n (kwF c s r0 (s 26).toNatClampNeg)) else km1 s r0 k (c + 1) n r
def kmN (s : Nat → Int32) (r : Nat → Nat → Int32) : Nat := (km1 s r (s 39).toNatClampNeg 0 0 r).1
def kmR (s : Nat → Int32) (r : Nat → Nat → Int32) : Nat → Nat → Int32 := (km1 s r (s 39).toNatClampNeg 0 0 r).2
def kmV (s : Nat → Int32) (r : Nat → Nat → Int32) : Int32 := gmO (kmR s r) (nI (kmN s r)) (2 ^ (nI (kmN s r)).toNatClampNeg)
def o100 (r r' : Nat → Nat → Int32) : Prop := ∀ f, ¬ f = 100 → r' f = r f
theorem o100_up {r r' : Nat → Nat → Int32} (h : o100 r r') (i : Nat) (x : Int32) : o100 r (up2 r' 100 i x) := fun f h1 => (up2_nn _ _ _ h1).trans (h f h1)
theorem kwF_o {r r' : Nat → Nat → Int32} (h : o100 r r') (j : Nat) (s : Nat → Int32) : ∀ n, kwF j s r' n = kwF j s r n
  | 0 => rfl
  | n + 1 => by
    have e : ∀ f, f < 100 → r' f = r f := fun f hf => h f (by omega)
    have hg : ∀ x y, fGo x y s r' = fGo x y s r := fun x y => fGo_eq rfl (e 2 (by decide)) (e 4 (by decide)) (e 5 (by decide))
    have hA : kAg n j s r' = kAg n j s r := by unfold kAg kOd; rw [e 29 (by decide), e 30 (by decide), e 32 (by decide), e 33 (by decide), e 34 (by decide), e 45 (by decide)]
    have hV : hgV j 1 s r' = hgV j 1 s r := by unfold hgV; rw [e 46 (by decide), hg]
    have hT : kHt n (r 42 j) (r 43 j) r' = kHt n (r 42 j) (r 43 j) r := by unfold kHt; rw [e 27 (by decide), e 28 (by decide), e 31 (by decide)]
    unfold kwF
    rw [kwF_o h j s n, hA, hV, e 42 (by decide), e 43 (by decide), hT]

set_option maxHeartbeats 400000 in
set_option maxRecDepth 100000 in
theorem c_X9_most {l : Launch} {D : va_G} {cI cZ cB cO cR cJ : ClassId} {Hb : Heap} {K : kTx} {lv : Nat → Prop} {ad : Nat → Nat} {ce0 : Nat → va_E} (s : Nat → Int32) (r : Nat → Nat → Int32) (hlv : kL lv s)  (h0 : 0 ≤ (s 39).toInt) (h1 : (s 39).toInt ≤ 60) (hk0 : 0 ≤ (s 26).toInt) (hk1 : (s 26).toInt ≤ 12) (hs : ∀ j, j < (s 39).toNatClampNeg → ¬ r 46 j = -1 → 0 ≤ (r 46 j).toInt ∧ (r 46 j).toInt ≤ 743) (hd : ∀ i j, i < (s 26).toNatClampNeg → j < (s 39).toNatClampNeg → (kSt (r 27 i) (r 28 i) (r 42 j) (r 43 j)).toInt ≤ 19) : kMet l D cI cZ cB cO cR cJ Hb K lv ad ce0 yX9_most wsX9_most 7 160 [.ref (ad 100)] s r (some (.int (kmV s r))) s (kmR s r) := by
  refine Met.ofW (cc := cX9_most) (maxL := 3) (ret := (some .int)) (by decide) rfl ?_
  intro p0 e0 s0 m0 args below meth c0 s₁ B hml hv
  obtain ⟨rfl, hG, hK, hE⟩ := hv
  have hx := B.exec
  have hb := B.bytes
  have hr := B.returns
  have hts := atoms_spec (ws := wsX9_most) B.pre
  have hown : s0.vm.findClass RX9 = some m0.cls := findClass_of_methodNamed B.named
  have hlocks := B.notSynchronized
  have S : kX p0 m0 c0 cX9_most 3 s0 _ wsX9_most RX9 D (tyL cI cZ cB cO cR cJ) Hb K := ⟨⟨hx, hb, hml, hown, hts⟩, hK, hE⟩
  have hL : gL Hb [] := gL.nil
  have hH := hG.2.2.2.2
  have hl := lv_entry ([.ref (ad 100)]) (n := 3) (Nat.le_of_ble_eq_true rfl)
  rw [lg_entry_eq]
  generalize (lg_sl ([.ref (ad 100)]) ++ List.replicate (3 - (lg_sl ([.ref (ad 100)])).length) Slot.unset).toArray = ls at hl ⊢
  have hl : lv_has ls 3 [(0, .ref (ad 100))] := hl
  refine lv_iconst (v := 0) hx hb dX9_most_0 (by decide) ?_
  refine lv_istore_n (lv' := [(1, .int 0), (0, .ref (ad 100))]) hx hb dX9_most_1 rfl hl (by decide) rfl (fun ls hl => ?_)
  refine lv_iconst (v := 0) hx hb dX9_most_2 (by decide) ?_
  refine lv_istore_n (lv' := [(2, .int 0), (1, .int 0), (0, .ref (ad 100))]) hx hb dX9_most_3 rfl hl (by decide) rfl (fun ls hl => ?_)
  have LP : ∀ (n : Nat) (i : Nat) (x : Int32) (q : Nat) (y : Int32) (rv : Nat → Nat → Int32) (ex : x = nI i) (hi : i ≤ (s 39).toNatClampNeg) (hn : (s 39).toNatClampNeg + 1 ≤ i + n) (ey : y = nI q) (hq : q ≤ 8) (ho : o100 r rv) (hF : km1 s r ((s 39).toNatClampNeg - i) i q rv = km1 s r (s 39).toNatClampNeg 0 0 r), ∀ (H : Heap) (locs : List Loc), gW D Hb lv ad (kJ ce0 ad K.2.2.1 cI cB cO cR s rv) H → gL Hb locs → ∀ (ls : Array Slot), lv_has ls 3 [(0, .ref (ad 100)), (1, .int y), (2, .int x)] → W p0 l e0 (headSpec wsX9_most { frames := 7, cells := 0, slots := 0, locals := 160 }).room s0 m0 ([.ref (ad 100)] : List Value).toArray below meth c0 H locs 0 0 (MQ below (gQ D Hb lv ad (some (.int (kmV s r))) (kJ ce0 ad K.2.2.1 cI cB cO cR s (kmR s r))) ([.ref (ad 100)] : List Value).toArray s0 0 0 (gA Hb)) (F0 m0 4 ls []) := by
    intro n
    induction n with
    | zero => intro i x q y rv ex hi hn ey hq ho hF; exact absurd hn (by omega)
    | succ n ih =>
      intro i x q y rv ex hi hn ey hq ho hF H locs hG hL ls hl
      have hbd : (s 39).toNatClampNeg ≤ 60 := t_ixl h0 h1; have hii : Int32.toNatClampNeg x = i := by { rw [ex]; exact ix_nI (by omega) }; have hyq : Int32.toNatClampNeg y = q := by { rw [ey]; exact ix_nI (by omega) }
      refine lv_iload_n hx hb dX9_most_4 rfl (lv_at hl 2 rfl) ?_
      refine lv_aload_n hx hb dX9_most_5 rfl (lv_at hl 0 rfl) ?_
      refine k_ga (C := RX9) (T := TX9) (N := 14) (ci := 10) (v := .ref (ad 108)) S hG (fun w h => List.mem_cons_of_mem _ (List.mem_append_left _ (List.mem_append_left _ (List.mem_append_left _ (List.mem_append_left _ (List.mem_append_right _ h)))))) 100 (hlv.f (by decide) (by decide)) rfl rfl 7 (by decide) rfl (hts (.fieldLink RX9 50 "SwarmLine" "cases" "Ljava/util/ArrayList;") (by decide +kernel)) rfl dX9_most_6 ?_
      refine k_callV (n := 0) (As := []) (rest := [.int x]) (st1 := .int (s 39) :: [.int x]) (k := 108) (ci := 0) S hG hL (hlv.f (by decide) (by decide)) rfl rfl (c_size3 s rv hlv   ) gX9_most_Jx4a65c_size_8abf5 rfl ⟨rfl, rfl⟩ (by decide +kernel) ⟨Nat.le_of_ble_eq_true rfl, Nat.le_of_ble_eq_true rfl⟩ rfl hl.1 rfl (Nat.le_of_ble_eq_true rfl) dX9_most_9 ⟨Nat.zero_le _, Nat.zero_le _⟩ (rfl) (fun H locs hG hL => ?_)
      refine lv_icmp_ge (tgt := 68) hx hb dX9_most_12 (by decide) (fun c12 => ?_) (fun c12 => ?_)
      ·
        have hEq := cl_ge h0 hi (ex ▸ c12)
        refine lv_aload_n hx hb dX9_most_68 rfl (lv_at hl 0 rfl) ?_
        refine k_ga (C := RX9) (T := TX9) (N := 14) (ci := 10) (v := .ref (ad 109)) S hG (fun w h => List.mem_cons_of_mem _ (List.mem_append_left _ (List.mem_append_left _ (List.mem_append_left _ (List.mem_append_left _ (List.mem_append_right _ h)))))) 100 (hlv.f (by decide) (by decide)) rfl rfl 8 (by decide) rfl (hts (.fieldLink RX9 53 "SwarmLine" "reach" "[I") (by decide +kernel)) rfl dX9_most_69 ?_
        refine lv_iload_n hx hb dX9_most_72 rfl (lv_at hl 1 rfl) ?_
        refine k_callS (n := 2) (As := [.ref (ad 109), .int y]) (rest := []) (st1 := .int (gmO rv y (2 ^ (y).toNatClampNeg)) :: []) S hG hL (c_X9_greatestMatching s rv hlv   y (by rw [ey, nI_toInt (by omega)]; omega) (by rw [ey, nI_toInt (by omega)]; omega)) gX9_most_X9_greatestMatching rfl ⟨rfl, rfl⟩ (by decide +kernel) ⟨Nat.le_of_ble_eq_true rfl, Nat.le_of_ble_eq_true rfl⟩ rfl hl.1 rfl (Nat.le_of_ble_eq_true rfl) dX9_most_73 ⟨Nat.zero_le _, Nat.zero_le _⟩ (rfl) (fun H locs hG hL => ?_)
        exact g_iret S.1 hr hlocks hG hL (congrArg (fun z => some (Value.int z)) (by have hZ : km1 s r (s 39).toNatClampNeg 0 0 r = (q, rv) := (by { rw [← hF]; rw [hEq, Nat.sub_self]; rfl }); simp only [kmV, kmR, kmN, hZ, ← ey])) (congr (congrArg (kJ ce0 ad K.2.2.1 cI cB cO cR) (by rfl)) (by have hZ : km1 s r (s 39).toNatClampNeg 0 0 r = (q, rv) := (by { rw [← hF]; rw [hEq, Nat.sub_self]; rfl }); simp only [kmR, hZ])) dX9_most_76
      ·
        have hlt := cl_lt h0 hi (ex ▸ c12)
        refine lv_iload_n hx hb dX9_most_15 rfl (lv_at hl 1 rfl) ?_
        refine lv_bipush (v := 8) hx hb dX9_most_16 (by decide) ?_
        refine lv_icmp_ge (tgt := 68) hx hb dX9_most_18 (by decide) (fun c18 => ?_) (fun c18 => ?_)
        ·
          have hq9 : 8 ≤ q := (nle (by omega) (by omega)).mp (ey ▸ c18)
          refine lv_aload_n hx hb dX9_most_68 rfl (lv_at hl 0 rfl) ?_
          refine k_ga (C := RX9) (T := TX9) (N := 14) (ci := 10) (v := .ref (ad 109)) S hG (fun w h => List.mem_cons_of_mem _ (List.mem_append_left _ (List.mem_append_left _ (List.mem_append_left _ (List.mem_append_left _ (List.mem_append_right _ h)))))) 100 (hlv.f (by decide) (by decide)) rfl rfl 8 (by decide) rfl (hts (.fieldLink RX9 53 "SwarmLine" "reach" "[I") (by decide +kernel)) rfl dX9_most_69 ?_
          refine lv_iload_n hx hb dX9_most_72 rfl (lv_at hl 1 rfl) ?_
          refine k_callS (n := 2) (As := [.ref (ad 109), .int y]) (rest := []) (st1 := .int (gmO rv y (2 ^ (y).toNatClampNeg)) :: []) S hG hL (c_X9_greatestMatching s rv hlv   y (by rw [ey, nI_toInt (by omega)]; omega) (by rw [ey, nI_toInt (by omega)]; omega)) gX9_most_X9_greatestMatching rfl ⟨rfl, rfl⟩ (by decide +kernel) ⟨Nat.le_of_ble_eq_true rfl, Nat.le_of_ble_eq_true rfl⟩ rfl hl.1 rfl (Nat.le_of_ble_eq_true rfl) dX9_most_73 ⟨Nat.zero_le _, Nat.zero_le _⟩ (rfl) (fun H locs hG hL => ?_)
          exact g_iret S.1 hr hlocks hG hL (congrArg (fun z => some (Value.int z)) (by have hZ : km1 s r (s 39).toNatClampNeg 0 0 r = (q, rv) := (by { rw [← hF]; rw [show (s 39).toNatClampNeg - i = ((s 39).toNatClampNeg - (i + 1)) + 1 by omega]; simp only [km1, eq_true hq9, ↓reduceIte] }); simp only [kmV, kmR, kmN, hZ, ← ey])) (congr (congrArg (kJ ce0 ad K.2.2.1 cI cB cO cR) (by rfl)) (by have hZ : km1 s r (s 39).toNatClampNeg 0 0 r = (q, rv) := (by { rw [← hF]; rw [show (s 39).toNatClampNeg - i = ((s 39).toNatClampNeg - (i + 1)) + 1 by omega]; simp only [km1, eq_true hq9, ↓reduceIte] }); simp only [kmR, hZ])) dX9_most_76
        ·
          have hq8 : q < 8 := by { have z := (not_congr (nle (by omega) (by omega))).mp (ey ▸ c18 : ¬ nI 8 ≤ nI q); omega }
          refine lv_aload_n hx hb dX9_most_21 rfl (lv_at hl 0 rfl) ?_
          refine k_ga (C := RX9) (T := TX9) (N := 14) (ci := 10) (v := .ref (ad 108)) S hG (fun w h => List.mem_cons_of_mem _ (List.mem_append_left _ (List.mem_append_left _ (List.mem_append_left _ (List.mem_append_left _ (List.mem_append_right _ h)))))) 100 (hlv.f (by decide) (by decide)) rfl rfl 7 (by decide) rfl (hts (.fieldLink RX9 50 "SwarmLine" "cases" "Ljava/util/ArrayList;") (by decide +kernel)) rfl dX9_most_22 ?_
          refine lv_iload_n hx hb dX9_most_25 rfl (lv_at hl 2 rfl) ?_
          refine k_callV (n := 1) (As := [.int x]) (rest := []) (st1 := .ref (ad (4000 + i)) :: []) (k := 108) (ci := 0) S hG hL (hlv.f (by decide) (by decide)) rfl rfl (c_get3 s rv hlv  x (g_x0 ex (by omega)) (g_x1 ex hlt (by omega) h0) (h1)) gX9_most_Jx4a65c_get_915e3 rfl ⟨rfl, rfl⟩ (by decide +kernel) ⟨Nat.le_of_ble_eq_true rfl, Nat.le_of_ble_eq_true rfl⟩ rfl hl.1 rfl (Nat.le_of_ble_eq_true rfl) dX9_most_26 ⟨Nat.zero_le _, Nat.zero_le _⟩ (by rw [hii]; rfl) (fun H locs hG hL => ?_)
          refine k_cast (C := RX1) (T := TX1) (N := 11) (ci := 2) S hG (4000 + i) (hlv.ca hlt) (kJ_ca (by omega)) rfl (hts (.classLink RX9 209 "SwarmLine$Case") (by decide +kernel)) dX9_most_29 ?_
          refine k_giN (C := RX1) (T := TX1) (N := 11) (ci := 2) (v := rv 41 i) S hG (fun w h => List.mem_cons_of_mem _ (List.mem_append_left _ (List.mem_append_left _ (List.mem_append_left _ (List.mem_append_right _ h))))) (4000 + i) (hlv.ca hlt) (kJ_ca (by omega)) rfl 3 (by decide) rfl (by decide +kernel) rfl (rfl) dX9_most_32 ?_
          refine lv_if_ne (tgt := 62) hx hb dX9_most_35 (by decide) (fun c35 => ?_) (fun c35 => ?_)
          ·
            refine lv_iinc (v := x + 1) (lv' := [(2, .int (x + 1)), (0, .ref (ad 100)), (1, .int y)]) hx hb dX9_most_62 hl (k := 2) rfl (by rfl) (by decide) rfl (fun ls hl => ?_)
            refine lv_goto (tgt := 4) hx hb dX9_most_65 (by decide) ?_
            exact ih  (i + 1) (x + 1) q y rv (by rw [ex]; exact nI_1 i) (hlt) (by omega) (ey) (by omega) (ho) (by rw [← hF, show (s 39).toNatClampNeg - i = ((s 39).toNatClampNeg - (i + 1)) + 1 by omega]; simp only [km1, eq_false (show ¬ 8 ≤ q by omega), ← ho 41 (by decide), eq_false c12, eq_false c18, eq_false c35, ↓reduceIte]) _ _ hG hL _ (lv_sub hl [1, 2, 0] rfl)
          ·
            refine lv_aload_n hx hb dX9_most_38 rfl (lv_at hl 0 rfl) ?_
            refine k_ga (C := RX9) (T := TX9) (N := 14) (ci := 10) (v := .ref (ad 109)) S hG (fun w h => List.mem_cons_of_mem _ (List.mem_append_left _ (List.mem_append_left _ (List.mem_append_left _ (List.mem_append_left _ (List.mem_append_right _ h)))))) 100 (hlv.f (by decide) (by decide)) rfl rfl 8 (by decide) rfl (hts (.fieldLink RX9 53 "SwarmLine" "reach" "[I") (by decide +kernel)) rfl dX9_most_39 ?_
            refine lv_iload_n hx hb dX9_most_42 rfl (lv_at hl 1 rfl) ?_
            refine lv_aload_n hx hb dX9_most_43 rfl (lv_at hl 0 rfl) ?_
            refine lv_aload_n hx hb dX9_most_44 rfl (lv_at hl 0 rfl) ?_
            refine k_ga (C := RX9) (T := TX9) (N := 14) (ci := 10) (v := .ref (ad 108)) S hG (fun w h => List.mem_cons_of_mem _ (List.mem_append_left _ (List.mem_append_left _ (List.mem_append_left _ (List.mem_append_left _ (List.mem_append_right _ h)))))) 100 (hlv.f (by decide) (by decide)) rfl rfl 7 (by decide) rfl (hts (.fieldLink RX9 50 "SwarmLine" "cases" "Ljava/util/ArrayList;") (by decide +kernel)) rfl dX9_most_45 ?_
            refine lv_iload_n hx hb dX9_most_48 rfl (lv_at hl 2 rfl) ?_
            refine k_callV (n := 1) (As := [.int x]) (rest := [.ref (ad 100), .int y, .ref (ad 109)]) (st1 := .ref (ad (4000 + i)) :: [.ref (ad 100), .int y, .ref (ad 109)]) (k := 108) (ci := 0) S hG hL (hlv.f (by decide) (by decide)) rfl rfl (c_get3 s rv hlv  x (g_x0 ex (by omega)) (g_x1 ex hlt (by omega) h0) (h1)) gX9_most_Jx4a65c_get_915e3 rfl ⟨rfl, rfl⟩ (by decide +kernel) ⟨Nat.le_of_ble_eq_true rfl, Nat.le_of_ble_eq_true rfl⟩ rfl hl.1 rfl (Nat.le_of_ble_eq_true rfl) dX9_most_49 ⟨Nat.zero_le _, Nat.zero_le _⟩ (by rw [hii]; rfl) (fun H locs hG hL => ?_)
            refine k_cast (C := RX1) (T := TX1) (N := 11) (ci := 2) S hG (4000 + i) (hlv.ca hlt) (kJ_ca (by omega)) rfl (hts (.classLink RX9 209 "SwarmLine$Case") (by decide +kernel)) dX9_most_52 ?_
            refine k_callV (n := 1) (As := [.ref (ad (4000 + i))]) (rest := [.int y, .ref (ad 109)]) (st1 := .int (kwF i s rv (s 26).toNatClampNeg) :: [.int y, .ref (ad 109)]) (k := 100) (ci := 10) S hG hL (hlv.f (by decide) (by decide)) rfl rfl (c_X9_keepersWhoCouldGo s rv hlv  i hlt (by omega) (hk0) (hk1) (by rw [ho 46 (by decide)]; exact hs i hlt) (fun i2 hi2 => by rw [ho 27 (by decide), ho 28 (by decide), ho 42 (by decide), ho 43 (by decide)]; exact hd i2 i hi2 hlt)) gX9_most_X9_keepersWhoCouldGo rfl ⟨rfl, rfl⟩ (by decide +kernel) ⟨Nat.le_of_ble_eq_true rfl, Nat.le_of_ble_eq_true rfl⟩ rfl hl.1 rfl (Nat.le_of_ble_eq_true rfl) dX9_most_55 ⟨Nat.zero_le _, Nat.zero_le _⟩ (rfl) (fun H locs hG hL => ?_)
            refine k_ist (j := q) S hG hL 109 (hlv.f (by decide) (by decide)) rfl hyq (show vp_in y 8 from by rw [ey]; exact vp_in_i (by omega) (by omega)) (kw_109 _ _) dX9_most_58 (fun H locs hG hL => ?_)
            refine lv_iinc (v := y + 1) (lv' := [(1, .int (y + 1)), (0, .ref (ad 100)), (2, .int x)]) hx hb dX9_most_59 hl (k := 1) rfl (by rfl) (by decide) rfl (fun ls hl => ?_)
            refine lv_iinc (v := x + 1) (lv' := [(2, .int (x + 1)), (1, .int (y + 1)), (0, .ref (ad 100))]) hx hb dX9_most_62 hl (k := 2) rfl (by rfl) (by decide) rfl (fun ls hl => ?_)
            refine lv_goto (tgt := 4) hx hb dX9_most_65 (by decide) ?_
            exact ih  (i + 1) (x + 1) (q + 1) (y + 1) (up2 rv 100 q (kwF i s rv (s 26).toNatClampNeg)) (by rw [ex]; exact nI_1 i) (hlt) (by omega) (by rw [ey]; exact nI_1 q) (by omega) (o100_up ho _ _) (by rw [← hF, show (s 39).toNatClampNeg - i = ((s 39).toNatClampNeg - (i + 1)) + 1 by omega]; simp only [km1, eq_false (show ¬ 8 ≤ q by omega), ← ho 41 (by decide), eq_false c12, eq_false c18, eq_true c35, ↓reduceIte]; rw [kwF_o ho]) _ _ hG hL _ (lv_sub hl [2, 1, 0] rfl)
  exact LP ((s 39).toNatClampNeg + 1) 0 0 0 0 r (rfl) (Nat.zero_le _) (by omega) (rfl) (by decide) (fun _ _ => rfl) (rfl) _ _ hG hL _ (lv_sub hl [2, 1, 0] rfl)
