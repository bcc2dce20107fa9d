set_option maxHeartbeats 600000 in
set_option maxRecDepth 100000 in
theorem c_X2_readFrom {l : Launch} {D : va_G} {cI cZ cB cO cR cJ : ClassId} {Hb : Heap} {K : kTx} {lv : Nat → Prop} {ad : Nat → Nat} {ce0 : Nat → va_E} (s : Nat → Int32) (r : Nat → Nat → Int32) (hlv : kL lv s) (now : Int32) (hB : 0 ≤ (s 61).toInt ∧ (s 61).toInt ≤ 400) (hT : hTp r) : kMet l D cI cZ cB cO cR cJ Hb K lv ad ce0 yX2_readFrom wsX2_readFrom 6 130 [.ref (ad 102), .ref (ad 101), .int now] s r (some (.int ((rdZ now s r).1))) ((rdZ now s r).2) r := by
  refine Met.ofW (cc := cX2_readFrom) (maxL := 4) (ret := (some .boolean)) (by decide) rfl ?_
  intro p0 e0 s0 m0 args below meth c0 s₁ B hml hv
  obtain ⟨rfl, hG, hK, hE⟩ := hv
  have hx := B.exec
  have hb := B.bytes
  have hr := B.returns
  have hts := atoms_spec (ws := wsX2_readFrom) B.pre
  have hown : s0.vm.findClass RX2 = some m0.cls := findClass_of_methodNamed B.named
  have hlocks := B.notSynchronized
  have S : kX p0 m0 c0 cX2_readFrom 4 s0 _ wsX2_readFrom RX2 D (tyL cI cZ cB cO cR cJ) Hb K := ⟨⟨hx, hb, hml, hown, hts⟩, hK, hE⟩
  have hL : gL Hb [] := gL.nil
  have hH := hG.2.2.2.2
  have hl := lv_entry ([.ref (ad 102), .ref (ad 101), .int now]) (n := 4) (Nat.le_of_ble_eq_true rfl)
  rw [lg_entry_eq]
  generalize (lg_sl ([.ref (ad 102), .ref (ad 101), .int now]) ++ List.replicate (4 - (lg_sl ([.ref (ad 102), .ref (ad 101), .int now])).length) Slot.unset).toArray = ls at hl ⊢
  have hl : lv_has ls 4 [(0, .ref (ad 102)), (1, .ref (ad 101)), (2, .int now)] := hl
  refine lv_aload_n hx hb dX2_readFrom_0 rfl (lv_at hl 0 rfl) ?_
  refine k_callV (n := 0) (As := []) (rest := []) (st1 := []) (k := 102) (ci := 3) S hG hL (hlv.f (by decide) (by decide)) rfl rfl (c_X2_forget s r hlv   ) gX2_readFrom_X2_forget rfl ⟨rfl, rfl⟩ (by decide +kernel) ⟨Nat.le_of_ble_eq_true rfl, Nat.le_of_ble_eq_true rfl⟩ rfl hl.1 rfl (Nat.le_of_ble_eq_true rfl) dX2_readFrom_1 ⟨Nat.zero_le _, Nat.zero_le _⟩ (rfl) (fun H locs hG hL => ?_)
  refine lv_aload_n hx hb dX2_readFrom_4 rfl (lv_at hl 1 rfl) ?_
  refine k_callV (n := 0) (As := []) (rest := []) (st1 := []) (k := 101) (ci := 8) S hG hL (hlv.f (by decide) (by decide)) rfl rfl (c_X7_rewind (upd (upd (upd (upd (upd (upd s 104 (-1)) 105 (-1)) 106 0) 107 (-1)) 108 0) 109 0) r hlv   ) gX2_readFrom_X7_rewind rfl ⟨rfl, rfl⟩ (by decide +kernel) ⟨Nat.le_of_ble_eq_true rfl, Nat.le_of_ble_eq_true rfl⟩ rfl hl.1 rfl (Nat.le_of_ble_eq_true rfl) dX2_readFrom_5 ⟨Nat.zero_le _, Nat.zero_le _⟩ (rfl) (fun H locs hG hL => ?_)
  refine lv_iconst (v := 0) hx hb dX2_readFrom_8 (by decide) ?_
  refine lv_istore_n (lv' := [(3, .int 0), (0, .ref (ad 102)), (1, .ref (ad 101)), (2, .int now)]) hx hb dX2_readFrom_9 rfl hl (by decide) rfl (fun ls hl => ?_)
  have LP : ∀ (n : Nat) (i : Nat) (x : Int32) (sv : Nat → Int32) (ex : x = nI i) (hi : i ≤ 5) (hn : 6 ≤ i + n) (hR : tR sv) (hlv2 : kL lv sv) (hF : rdG now r (5 - i) sv = rdZ now s r), ∀ (H : Heap) (locs : List Loc), gW D Hb lv ad (kJ ce0 ad K.2.2.1 cI cB cO cR sv r) H → gL Hb locs → ∀ (ls : Array Slot), lv_has ls 4 [(0, .ref (ad 102)), (1, .ref (ad 101)), (2, .int now), (3, .int x)] → W p0 l e0 (headSpec wsX2_readFrom { frames := 6, cells := 0, slots := 0, locals := 130 }).room s0 m0 ([.ref (ad 102), .ref (ad 101), .int now] : List Value).toArray below meth c0 H locs 0 0 (MQ below (gQ D Hb lv ad (some (.int ((rdZ now s r).1))) (kJ ce0 ad K.2.2.1 cI cB cO cR ((rdZ now s r).2) r)) ([.ref (ad 102), .ref (ad 101), .int now] : List Value).toArray s0 0 0 (gA Hb)) (F0 m0 10 ls []) := by
    intro n
    induction n with
    | zero => intro i x sv ex hi hn hR hlv2 hF; exact absurd hn (by omega)
    | succ n ih =>
      intro i x sv ex hi hn hR hlv2 hF H locs hG hL ls hl
      refine lv_iload_n hx hb dX2_readFrom_10 rfl (lv_at hl 3 rfl) ?_
      refine lv_iconst (v := 5) hx hb dX2_readFrom_11 (by decide) ?_
      refine lv_icmp_ge (tgt := 70) hx hb dX2_readFrom_12 (by decide) (fun c12 => ?_) (fun c12 => ?_)
      ·
        have hE : i = 5 := by { have q := (nle (by omega) (by omega)).mp (ex ▸ c12 : nI 5 ≤ nI i); omega }
        refine lv_aload_n hx hb dX2_readFrom_70 rfl (lv_at hl 1 rfl) ?_
        refine k_callV (n := 0) (As := []) (rest := []) (st1 := []) (k := 101) (ci := 8) S hG hL (hlv.f (by decide) (by decide)) rfl rfl (c_X7_advance sv r hlv2   (hR) (hT)) gX2_readFrom_X7_advance rfl ⟨rfl, rfl⟩ (by decide +kernel) ⟨Nat.le_of_ble_eq_true rfl, Nat.le_of_ble_eq_true rfl⟩ rfl hl.1 rfl (Nat.le_of_ble_eq_true rfl) dX2_readFrom_71 ⟨Nat.zero_le _, Nat.zero_le _⟩ (rfl) (fun H locs hG hL => ?_)
        refine lv_iconst (v := 0) hx hb dX2_readFrom_74 (by decide) ?_
        exact g_zret S.1 hr hlocks (by decide) hG hL (congrArg (fun z => some (Value.int z)) (by rw [← hF, hE]; rfl)) (congr (congrArg (kJ ce0 ad K.2.2.1 cI cB cO cR) (by rw [← hF, hE]; rfl)) (by rfl)) dX2_readFrom_75
      ·
        have hlt : i < 5 := by { have q := (not_congr (nle (by omega) (by omega))).mp (ex ▸ c12 : ¬ nI 5 ≤ nI i); omega }
        refine lv_aload_n hx hb dX2_readFrom_15 rfl (lv_at hl 1 rfl) ?_
        refine k_callV (n := 0) (As := []) (rest := []) (st1 := []) (k := 101) (ci := 8) S hG hL (hlv.f (by decide) (by decide)) rfl rfl (c_X7_advance sv r hlv2   (hR) (hT)) gX2_readFrom_X7_advance rfl ⟨rfl, rfl⟩ (by decide +kernel) ⟨Nat.le_of_ble_eq_true rfl, Nat.le_of_ble_eq_true rfl⟩ rfl hl.1 rfl (Nat.le_of_ble_eq_true rfl) dX2_readFrom_16 ⟨Nat.zero_le _, Nat.zero_le _⟩ (rfl) (fun H locs hG hL => ?_)
        refine lv_aload_n hx hb dX2_readFrom_19 rfl (lv_at hl 0 rfl) ?_
        refine lv_aload_n hx hb dX2_readFrom_20 rfl (lv_at hl 1 rfl) ?_
        refine lv_iload_n hx hb dX2_readFrom_21 rfl (lv_at hl 2 rfl) ?_
        refine k_callV (n := 2) (As := [.ref (ad 101), .int now]) (rest := []) (st1 := .int ((rdB now (adS sv r) r).1) :: []) (k := 102) (ci := 3) S hG hL (hlv.f (by decide) (by decide)) rfl rfl (c_X2_readFact (adS sv r) r (hlv2.ad r)   now (ad_W hR) (hT)) gX2_readFrom_X2_readFact rfl ⟨rfl, rfl⟩ (by decide +kernel) ⟨Nat.le_of_ble_eq_true rfl, Nat.le_of_ble_eq_true rfl⟩ rfl hl.1 rfl (Nat.le_of_ble_eq_true rfl) dX2_readFrom_22 ⟨Nat.zero_le _, Nat.zero_le _⟩ (rfl) (fun H locs hG hL => ?_)
        refine lv_if_ne (tgt := 30) hx hb dX2_readFrom_25 (by decide) (fun c25 => ?_) (fun c25 => ?_)
        ·
          refine lv_aload_n hx hb dX2_readFrom_30 rfl (lv_at hl 1 rfl) ?_
          refine k_callV (n := 0) (As := []) (rest := []) (st1 := []) (k := 101) (ci := 8) S hG hL (hlv.f (by decide) (by decide)) rfl rfl (c_X7_advance ((rdB now (adS sv r) r).2) r (rdB_L (hlv2.ad r))   (rdB_R (ad_R hR)) (hT)) gX2_readFrom_X7_advance rfl ⟨rfl, rfl⟩ (by decide +kernel) ⟨Nat.le_of_ble_eq_true rfl, Nat.le_of_ble_eq_true rfl⟩ rfl hl.1 rfl (Nat.le_of_ble_eq_true rfl) dX2_readFrom_31 ⟨Nat.zero_le _, Nat.zero_le _⟩ (rfl) (fun H locs hG hL => ?_)
          refine lv_aload_n hx hb dX2_readFrom_34 rfl (lv_at hl 1 rfl) ?_
          refine lv_bipush (v := 44) hx hb dX2_readFrom_35 (by decide) ?_
          refine k_callV (n := 1) (As := [.int 44]) (rest := []) (st1 := .int (kSg 44 (adS ((rdB now (adS sv r) r).2) r) r) :: []) (k := 101) (ci := 8) S hG hL (hlv.f (by decide) (by decide)) rfl rfl (c_X7_isSign (adS ((rdB now (adS sv r) r).2) r) r ((rdB_L (hlv2.ad r)).ad r)  44 (ad_W (rdB_R (ad_R hR)))) gX2_readFrom_X7_isSign rfl ⟨rfl, rfl⟩ (by decide +kernel) ⟨Nat.le_of_ble_eq_true rfl, Nat.le_of_ble_eq_true rfl⟩ rfl hl.1 rfl (Nat.le_of_ble_eq_true rfl) dX2_readFrom_37 ⟨Nat.zero_le _, Nat.zero_le _⟩ (rfl) (fun H locs hG hL => ?_)
          refine lv_if_ne (tgt := 64) hx hb dX2_readFrom_40 (by decide) (fun c40 => ?_) (fun c40 => ?_)
          ·
            refine lv_iinc (v := x + 1) (lv' := [(3, .int (x + 1)), (0, .ref (ad 102)), (1, .ref (ad 101)), (2, .int now)]) hx hb dX2_readFrom_64 hl (k := 3) rfl (by rfl) (by decide) rfl (fun ls hl => ?_)
            refine lv_goto (tgt := 10) hx hb dX2_readFrom_67 (by decide) ?_
            exact ih  (i + 1) (x + 1) (adS ((rdB now (adS sv r) r).2) r) (by rw [ex]; exact nI_1 i) (by omega) (by omega) (ad_R (rdB_R (ad_R hR))) ((rdB_L (hlv2.ad r)).ad r) (by rw [← hF, show 5 - i = (5 - (i + 1)) + 1 by omega]; simp only [rdG, eq_false c12, eq_false c25, eq_false c40, if_true, if_false]) _ _ hG hL _ (lv_sub hl [1, 2, 3, 0] rfl)
          ·
            refine lv_aload_n hx hb dX2_readFrom_43 rfl (lv_at hl 1 rfl) ?_
            refine k_callV (n := 0) (As := []) (rest := []) (st1 := .int (kAe (adS ((rdB now (adS sv r) r).2) r)) :: []) (k := 101) (ci := 8) S hG hL (hlv.f (by decide) (by decide)) rfl rfl (c_X7_isAtEnd (adS ((rdB now (adS sv r) r).2) r) r ((rdB_L (hlv2.ad r)).ad r)   ) gX2_readFrom_X7_isAtEnd rfl ⟨rfl, rfl⟩ (by decide +kernel) ⟨Nat.le_of_ble_eq_true rfl, Nat.le_of_ble_eq_true rfl⟩ rfl hl.1 rfl (Nat.le_of_ble_eq_true rfl) dX2_readFrom_44 ⟨Nat.zero_le _, Nat.zero_le _⟩ (rfl) (fun H locs hG hL => ?_)
            refine lv_if_eq (tgt := 62) hx hb dX2_readFrom_47 (by decide) (fun c47 => ?_) (fun c47 => ?_)
            ·
              refine lv_iconst (v := 0) hx hb dX2_readFrom_62 (by decide) ?_
              exact g_zret S.1 hr hlocks (by decide) hG hL (congrArg (fun z => some (Value.int z)) (by rw [← hF, show 5 - i = (5 - (i + 1)) + 1 by omega]; simp only [rdG, eq_false c12, eq_false c25, eq_true c40, eq_true c47, if_true, if_false])) (congr (congrArg (kJ ce0 ad K.2.2.1 cI cB cO cR) (by rw [← hF, show 5 - i = (5 - (i + 1)) + 1 by omega]; simp only [rdG, eq_false c12, eq_false c25, eq_true c40, eq_true c47, if_true, if_false])) (by rfl)) dX2_readFrom_63
            ·
              refine lv_aload_n hx hb dX2_readFrom_50 rfl (lv_at hl 0 rfl) ?_
              refine k_gi (C := RX2) (T := TX2) (N := 6) (ci := 3) (v := (adS ((rdB now (adS sv r) r).2) r) 104) S hG (fun w h => List.mem_cons_of_mem _ (List.mem_append_left _ (List.mem_append_right _ h))) 102 (hlv.f (by decide) (by decide)) rfl rfl 0 (by decide) rfl (hts (.fieldLink RX2 34 "SwarmLine$Facts" "x" "I") (by decide +kernel)) rfl (rfl) dX2_readFrom_51 ?_
              refine lv_iconst (v := (-1)) hx hb dX2_readFrom_54 (by decide) ?_
              refine lv_icmp_eq (tgt := 62) hx hb dX2_readFrom_55 (by decide) (fun c55 => ?_) (fun c55 => ?_)
              ·
                refine lv_iconst (v := 0) hx hb dX2_readFrom_62 (by decide) ?_
                exact g_zret S.1 hr hlocks (by decide) hG hL (congrArg (fun z => some (Value.int z)) (by rw [← hF, show 5 - i = (5 - (i + 1)) + 1 by omega]; simp only [rdG, eq_false c12, eq_false c25, eq_true c40, eq_false c47, eq_true c55, if_true, if_false])) (congr (congrArg (kJ ce0 ad K.2.2.1 cI cB cO cR) (by rw [← hF, show 5 - i = (5 - (i + 1)) + 1 by omega]; simp only [rdG, eq_false c12, eq_false c25, eq_true c40, eq_false c47, eq_true c55, if_true, if_false])) (by rfl)) dX2_readFrom_63
              ·
                refine lv_iconst (v := 1) hx hb dX2_readFrom_58 (by decide) ?_
                refine lv_goto (tgt := 63) hx hb dX2_readFrom_59 (by decide) ?_
                exact g_zret S.1 hr hlocks (by decide) hG hL (congrArg (fun z => some (Value.int z)) (by rw [← hF, show 5 - i = (5 - (i + 1)) + 1 by omega]; simp only [rdG, eq_false c12, eq_false c25, eq_true c40, eq_false c47, eq_false c55, if_true, if_false])) (congr (congrArg (kJ ce0 ad K.2.2.1 cI cB cO cR) (by rw [← hF, show 5 - i = (5 - (i + 1)) + 1 by omega]; simp only [rdG, eq_false c12, eq_false c25, eq_true c40, eq_false c47, eq_false c55, if_true, if_false])) (by rfl)) dX2_readFrom_63
        ·
          refine lv_iconst (v := 0) hx hb dX2_readFrom_28 (by decide) ?_
          exact g_zret S.1 hr hlocks (by decide) hG hL (congrArg (fun z => some (Value.int z)) (by rw [← hF, show 5 - i = (5 - (i + 1)) + 1 by omega]; simp only [rdG, eq_false c12, eq_true c25, if_true, if_false])) (congr (congrArg (kJ ce0 ad K.2.2.1 cI cB cO cR) (by rw [← hF, show 5 - i = (5 - (i + 1)) + 1 by omega]; simp only [rdG, eq_false c12, eq_true c25, if_true, if_false])) (by rfl)) dX2_readFrom_29
  exact LP 6 0 0 (upd (upd (upd (upd (upd (upd (upd s 104 (-1)) 105 (-1)) 106 0) 107 (-1)) 108 0) 109 0) 102 0) (rfl) (by omega) (by omega) (⟨hB.1, hB.2, show 0 ≤ (0 : Int32).toInt from by decide, by { show (0 : Int32).toInt ≤ (s 61).toInt; rw [t_0]; exact hB.1 }⟩) (((((((hlv.up (by decide) _).up (by decide) _).up (by decide) _).up (by decide) _).up (by decide) _).up (by decide) _).up (by decide) _) (rfl) _ _ hG hL _ (lv_sub hl [1, 2, 3, 0] rfl)
