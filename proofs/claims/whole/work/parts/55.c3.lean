/-! the class's plain calls -/
theorem min_sw (a b : Int32) : (if b < a then b else a) = (if a ≤ b then a else b) := by
  by_cases h : a ≤ b
  · have h2 : ¬ b < a := by rw [t_lt]; rw [t_le] at h; omega
    rw [if_neg h2, if_pos h]
  · have h2 : b < a := by rw [t_lt]; rw [t_le] at h; omega
    rw [if_pos h2, if_neg h]
theorem nle_of {a b : Int32} (h : b < a) : (a ≤ b) = False := eq_false (by rw [t_le]; rw [t_lt] at h; omega)
theorem le_of {a b : Int32} (h : ¬ b < a) : (a ≤ b) = True := eq_true (by rw [t_le]; rw [t_lt] at h; omega)
theorem xNm_n {n k : Int32} (h : xNm n k = none) : ¬ fIs n k = 0 := by
  intro z
  unfold xNm at h
  rw [if_pos z] at h
  cases h
theorem xNm_lt {n k : Int32} (h : xNm n k = none) : k.toNatClampNeg < n.toNatClampNeg := ix_lt (fIs_b (xNm_n h)).1 (fIs_b (xNm_n h)).2
theorem xNm_9 {n k : Int32} (h : xNm n k = none) (hn : n.toInt ≤ 60) : k.toNatClampNeg < 1000 := ix_le (fIs_b (xNm_n h)).1 (by have := (fIs_b (xNm_n h)).2; omega)
def xLk (n k hi w : Int32) : Option String := if fIs n k = 0 then some "java/lang/IndexOutOfBoundsException" else xTo hi w
def xBo (n k b : Int32) : Option String := if fIs n k = 0 then some "java/lang/IndexOutOfBoundsException" else if fIn b 0 20 = 0 then some "java/lang/IllegalArgumentException" else none
def xWe (d w b : Int32) (s : Nat → Int32) : Option String := if fIn d 0 30 = 0 then some "java/lang/IndexOutOfBoundsException" else if fIn w (-20) 40 = 0 then some "java/lang/IllegalArgumentException" else if fIn b 0 100 = 0 then some "java/lang/IllegalArgumentException" else if s 1 / 24 < d then none else if s 1 ≤ 0 then none else some "java/lang/IllegalStateException"
def xFo (d a b : Int32) : Option String := if fIn d 0 30 = 0 then some "java/lang/IndexOutOfBoundsException" else if fIn a (-20) 40 = 0 then some "java/lang/IllegalArgumentException" else if fIn b (-20) 40 = 0 then some "java/lang/IllegalArgumentException" else if a ≤ b then none else some "java/lang/IllegalArgumentException"
def kOd (h : Int32) (i : Nat) (r : Nat → Nat → Int32) : Int32 := if r 33 i < r 32 i then (if r 32 i ≤ h then 1 else if r 33 i < h then 0 else 1) else fIn h (r 32 i) (r 33 i)
theorem kOd_01 (h : Int32) (i : Nat) (r : Nat → Nat → Int32) : kOd h i r = 0 ∨ kOd h i r = 1 := by
  unfold kOd
  split
  · split
    · exact Or.inr rfl
    · split
      · exact Or.inl rfl
      · exact Or.inr rfl
  · exact fIn_01 _ _ _
def kAg (i j : Nat) (s : Nat → Int32) (r : Nat → Nat → Int32) : Int32 := if kOd (s 1 - s 1 / 24 * 24) i r = 0 then 1 else if r 34 i = 0 then (if 1 ≤ r 29 i then (if r 45 j ≤ r 30 i then 0 else 4) else 3) else 2
def kRk (d t lst : Int32) (r : Nat → Nat → Int32) : Int32 := if t < d then (if lst = 0 then r 4 (Int32.toNatClampNeg (cap30 d)) else r 5 (Int32.toNatClampNeg (cap30 d))) else r 2 (Int32.toNatClampNeg (cap30 d))
theorem cap30_t {d : Int32} (h : 0 ≤ d.toInt) : 0 ≤ (cap30 d).toInt ∧ (cap30 d).toInt ≤ 30 := by
  unfold cap30
  have z : (30 : Int32).toInt = 30 := rfl
  split
  · rename_i h2
    rw [t_le] at h2
    omega
  · omega
theorem cap30_in {d : Int32} (h : 0 ≤ d.toInt) : vp_in (cap30 d) 31 := by
  unfold cap30
  split
  · rename_i h2
    rw [t_le] at h2
    exact vp_in_t h (by have : (30 : Int32).toInt = 30 := rfl; omega)
  · exact vp_in_t (by decide) (by decide)
theorem kHd_cap {d : Int32} (h : 0 ≤ d.toInt) : kHd d = cap30 d := by
  unfold kHd
  rw [min_sw]
  show (if 0 < cap30 d then cap30 d else 0) = cap30 d
  by_cases c : 0 < cap30 d
  · rw [if_pos c]
  · rw [if_neg c]
    have q := (cap30_t h).1
    rw [t_lt, t_0] at c
    rw [t_eq, t_0]
    omega
theorem cap_day {x : Int32} (h0 : 0 ≤ x.toInt) (h1 : x.toInt ≤ 743) : cap30 (x / 24) = x / 24 := by
  unfold cap30
  rw [if_pos]
  rw [t_le, t_div24 h0]
  have z : (30 : Int32).toInt = 30 := rfl
  omega
theorem day_0 {x : Int32} (h0 : 0 ≤ x.toInt) : 0 ≤ (x / 24).toInt := by rw [t_div24 h0]; omega
def htF (d p : Int32) : Nat → Int32 → Int32
  | 0, h => h
  | n + 1, h => if d ≤ h then h else if d ≤ h * p then h else htF d p n (h + 1)
def lpR (i : Nat) (lo now : Int32) (r : Nat → Nat → Int32) : Nat → Nat → Int32 := if r 15 i = 0 then (if r 22 i - lo ≤ 0 then up2 (up2 (up2 r 22 i (r 22 i - lo)) 15 i 2) 24 i now else up2 r 22 i (r 22 i - lo)) else r
def gwB (i : Nat) (bl : Int32) (r : Nat → Nat → Int32) : Int32 := if r 9 i + r 9 i * bl / 1000 ≤ 100000 then r 9 i + r 9 i * bl / 1000 else 100000
def gwR (i : Nat) (bl wa : Int32) (r : Nat → Nat → Int32) : Nat → Nat → Int32 := up2 (up2 r 9 i (gwB i bl r)) 12 i (if wa < 18 then 0 else r 12 i + 1)
def kAw (i j : Nat) (mk : Int32) (r : Nat → Nat → Int32) : Int32 := if r 13 i = -1 then 0 else if fIn (r 24 j - r 13 i) 0 60 = 0 then 0 else if 3 < kSt (r 7 i) (r 8 i) (r 18 j) (r 19 j) then 0 else if mk = 0 then 1 else if mk = r 11 i then 1 else 0
def kAl (i : Nat) (now : Int32) (s : Nat → Int32) (r : Nat → Nat → Int32) : Int32 :=
  if r 41 i = 0 ∨ r 41 i = 1 then (if 1 < kSt (r 42 i) (r 43 i) (s 104) (s 105) then 0 else if 6 < now - r 49 i then 0 else if r 47 i = 0 then 1 else if s 108 = 0 then 1 else if r 47 i = s 108 then 1 else 0) else 0
def hgV (j : Nat) (lst : Int32) (s : Nat → Int32) (r : Nat → Nat → Int32) : Int32 := if r 46 j = -1 then -1 else fGo (r 46 j) lst s r
theorem vCt_01 (n : Int32) (s : Nat → Int32) : vCt n s = 0 ∨ vCt n s = 1 := by
  unfold vCt
  split
  · exact Or.inl rfl
  · split
    · exact Or.inr rfl
    · exact Or.inl rfl

set_option maxHeartbeats 4000000 in
set_option maxRecDepth 100000 in
theorem c_X9_end {l : Launch} {D : va_G} {cI cZ cB cO cR cJ : ClassId} {Hb : Heap} {K : kTx} {lv : Nat → Prop} {ad : Nat → Nat} {ce0 : Nat → va_E} (s : Nat → Int32) (r : Nat → Nat → Int32) (hlv : kL lv s) (n : Int32)  : kMet l D cI cZ cB cO cR cJ Hb K lv ad ce0 yX9_end wsX9_end 1 21 [.ref (ad 100), .int n] s r (some (.int (vCt n s))) (sCt n s) r := by
  refine Met.ofW (cc := cX9_end) (maxL := 2) (ret := (some .boolean)) (by decide) rfl ?_
  intro p0 e0 s0 m0 args below meth c0 s₁ B hml hv
  obtain ⟨rfl, hG, hK, hE⟩ := hv
  have hx := B.exec
  have hb := B.bytes
  have hr := B.returns
  have hts := atoms_spec (ws := wsX9_end) B.pre
  have hown : s0.vm.findClass RX9 = some m0.cls := findClass_of_methodNamed B.named
  have hlocks := B.notSynchronized
  have S : kX p0 m0 c0 cX9_end 2 s0 _ wsX9_end RX9 D (tyL cI cZ cB cO cR cJ) Hb K := ⟨⟨hx, hb, hml, hown, hts⟩, hK, hE⟩
  have hL : gL Hb [] := gL.nil
  have hH := hG.2.2.2.2
  have hl := lv_entry ([.ref (ad 100), .int n]) (n := 2) (Nat.le_of_ble_eq_true rfl)
  rw [lg_entry_eq]
  generalize (lg_sl ([.ref (ad 100), .int n]) ++ List.replicate (2 - (lg_sl ([.ref (ad 100), .int n])).length) Slot.unset).toArray = ls at hl ⊢
  have hl : lv_has ls 2 [(0, .ref (ad 100)), (1, .int n)] := hl
  refine lv_aload_n hx hb dX9_end_0 rfl (lv_at hl 0 rfl) ?_
  refine k_ga (C := RX9) (T := TX9) (N := 14) (ci := 10) (v := .ref (ad 101)) S hG (fun w h => List.mem_cons_of_mem _ (List.mem_append_left _ (List.mem_append_right _ h))) 100 (hlv.f (by decide) (by decide)) rfl rfl 0 (by decide) rfl (hts (.fieldLink RX9 10 "SwarmLine" "tape" "LSwarmLine$Tape;") (by decide +kernel)) rfl dX9_end_1 ?_
  refine lv_iload_n hx hb dX9_end_4 rfl (lv_at hl 1 rfl) ?_
  refine k_callV (n := 1) (As := [.int n]) (rest := []) (st1 := .int (vCt n s) :: []) (k := 101) (ci := 8) S hG hL (hlv.f (by decide) (by decide)) rfl rfl (c_X7_cutTo s r hlv  n ) gX9_end_X7_cutTo rfl ⟨rfl, rfl⟩ (by decide +kernel) ⟨Nat.le_of_ble_eq_true rfl, Nat.le_of_ble_eq_true rfl⟩ rfl hl.1 rfl (Nat.le_of_ble_eq_true rfl) dX9_end_5 ⟨Nat.zero_le _, Nat.zero_le _⟩ (rfl) (fun H locs hG hL => ?_)
  exact g_zret S.1 hr hlocks ((t_bool (vCt_01 _ _)).1) hG hL (congrArg (fun z => some (Value.int z)) (by rfl)) (congr (congrArg (kJ ce0 ad K.2.2.1 cI cB cO cR) (by rfl)) (by rfl)) dX9_end_8

set_option maxHeartbeats 4000000 in
set_option maxRecDepth 100000 in
theorem c_X4_isOnDuty {l : Launch} {D : va_G} {cI cZ cB cO cR cJ : ClassId} {Hb : Heap} {K : kTx} {lv : Nat → Prop} {ad : Nat → Nat} {ce0 : Nat → va_E} (s : Nat → Int32) (r : Nat → Nat → Int32) (hlv : kL lv s) (i : Nat) (hi : i < (s 26).toNatClampNeg) (hi9 : i < 1000) (h : Int32)  : kMet l D cI cZ cB cO cR cJ Hb K lv ad ce0 yX4_isOnDuty wsX4_isOnDuty 1 22 [.ref (ad (3000 + i)), .int h] s r (some (.int (kOd h i r))) s r := by
  refine Met.ofW (cc := cX4_isOnDuty) (maxL := 2) (ret := (some .boolean)) (by decide) rfl ?_
  intro p0 e0 s0 m0 args below meth c0 s₁ B hml hv
  obtain ⟨rfl, hG, hK, hE⟩ := hv
  have hx := B.exec
  have hb := B.bytes
  have hr := B.returns
  have hts := atoms_spec (ws := wsX4_isOnDuty) B.pre
  have hown : s0.vm.findClass RX4 = some m0.cls := findClass_of_methodNamed B.named
  have hlocks := B.notSynchronized
  have S : kX p0 m0 c0 cX4_isOnDuty 2 s0 _ wsX4_isOnDuty RX4 D (tyL cI cZ cB cO cR cJ) Hb K := ⟨⟨hx, hb, hml, hown, hts⟩, hK, hE⟩
  have hL : gL Hb [] := gL.nil
  have hH := hG.2.2.2.2
  have hl := lv_entry ([.ref (ad (3000 + i)), .int h]) (n := 2) (Nat.le_of_ble_eq_true rfl)
  rw [lg_entry_eq]
  generalize (lg_sl ([.ref (ad (3000 + i)), .int h]) ++ List.replicate (2 - (lg_sl ([.ref (ad (3000 + i)), .int h])).length) Slot.unset).toArray = ls at hl ⊢
  have hl : lv_has ls 2 [(0, .ref (ad (3000 + i))), (1, .int h)] := hl
  refine lv_aload_n hx hb dX4_isOnDuty_0 rfl (lv_at hl 0 rfl) ?_
  refine k_gi (C := RX4) (T := TX4) (N := 12) (ci := 5) (v := r 32 i) S hG (fun w h => List.mem_cons_of_mem _ (List.mem_append_right _ h)) (3000 + i) (hlv.kp hi) (kJ_kp hi9) rfl 4 (by decide) rfl (hts (.fieldLink RX4 42 "SwarmLine$Keeper" "from" "I") (by decide +kernel)) rfl (rfl) dX4_isOnDuty_1 ?_
  refine lv_aload_n hx hb dX4_isOnDuty_4 rfl (lv_at hl 0 rfl) ?_
  refine k_gi (C := RX4) (T := TX4) (N := 12) (ci := 5) (v := r 33 i) S hG (fun w h => List.mem_cons_of_mem _ (List.mem_append_right _ h)) (3000 + i) (hlv.kp hi) (kJ_kp hi9) rfl 5 (by decide) rfl (hts (.fieldLink RX4 45 "SwarmLine$Keeper" "to" "I") (by decide +kernel)) rfl (rfl) dX4_isOnDuty_5 ?_
  refine lv_icmp_gt (tgt := 24) hx hb dX4_isOnDuty_8 (by decide) (fun c8 => ?_) (fun c8 => ?_)
  ·
    refine lv_iload_n hx hb dX4_isOnDuty_24 rfl (lv_at hl 1 rfl) ?_
    refine lv_aload_n hx hb dX4_isOnDuty_25 rfl (lv_at hl 0 rfl) ?_
    refine k_gi (C := RX4) (T := TX4) (N := 12) (ci := 5) (v := r 32 i) S hG (fun w h => List.mem_cons_of_mem _ (List.mem_append_right _ h)) (3000 + i) (hlv.kp hi) (kJ_kp hi9) rfl 4 (by decide) rfl (hts (.fieldLink RX4 42 "SwarmLine$Keeper" "from" "I") (by decide +kernel)) rfl (rfl) dX4_isOnDuty_26 ?_
    refine lv_icmp_ge (tgt := 40) hx hb dX4_isOnDuty_29 (by decide) (fun c29 => ?_) (fun c29 => ?_)
    ·
      refine lv_iconst (v := 1) hx hb dX4_isOnDuty_40 (by decide) ?_
      refine lv_goto (tgt := 45) hx hb dX4_isOnDuty_41 (by decide) ?_
      exact g_zret S.1 hr hlocks (by decide) hG hL (congrArg (fun z => some (Value.int z)) (by simp only [kOd, eq_true c8, eq_true c29, if_true, if_false])) (congr (congrArg (kJ ce0 ad K.2.2.1 cI cB cO cR) (by rfl)) (by rfl)) dX4_isOnDuty_45
    ·
      refine lv_iload_n hx hb dX4_isOnDuty_32 rfl (lv_at hl 1 rfl) ?_
      refine lv_aload_n hx hb dX4_isOnDuty_33 rfl (lv_at hl 0 rfl) ?_
      refine k_gi (C := RX4) (T := TX4) (N := 12) (ci := 5) (v := r 33 i) S hG (fun w h => List.mem_cons_of_mem _ (List.mem_append_right _ h)) (3000 + i) (hlv.kp hi) (kJ_kp hi9) rfl 5 (by decide) rfl (hts (.fieldLink RX4 45 "SwarmLine$Keeper" "to" "I") (by decide +kernel)) rfl (rfl) dX4_isOnDuty_34 ?_
      refine lv_icmp_gt (tgt := 44) hx hb dX4_isOnDuty_37 (by decide) (fun c37 => ?_) (fun c37 => ?_)
      ·
        refine lv_iconst (v := 0) hx hb dX4_isOnDuty_44 (by decide) ?_
        exact g_zret S.1 hr hlocks (by decide) hG hL (congrArg (fun z => some (Value.int z)) (by simp only [kOd, eq_true c8, eq_false c29, eq_true c37, if_true, if_false])) (congr (congrArg (kJ ce0 ad K.2.2.1 cI cB cO cR) (by rfl)) (by rfl)) dX4_isOnDuty_45
      ·
        refine lv_iconst (v := 1) hx hb dX4_isOnDuty_40 (by decide) ?_
        refine lv_goto (tgt := 45) hx hb dX4_isOnDuty_41 (by decide) ?_
        exact g_zret S.1 hr hlocks (by decide) hG hL (congrArg (fun z => some (Value.int z)) (by simp only [kOd, eq_true c8, eq_false c29, eq_false c37, if_true, if_false])) (congr (congrArg (kJ ce0 ad K.2.2.1 cI cB cO cR) (by rfl)) (by rfl)) dX4_isOnDuty_45
  ·
    refine lv_iload_n hx hb dX4_isOnDuty_11 rfl (lv_at hl 1 rfl) ?_
    refine lv_aload_n hx hb dX4_isOnDuty_12 rfl (lv_at hl 0 rfl) ?_
    refine k_gi (C := RX4) (T := TX4) (N := 12) (ci := 5) (v := r 32 i) S hG (fun w h => List.mem_cons_of_mem _ (List.mem_append_right _ h)) (3000 + i) (hlv.kp hi) (kJ_kp hi9) rfl 4 (by decide) rfl (hts (.fieldLink RX4 42 "SwarmLine$Keeper" "from" "I") (by decide +kernel)) rfl (rfl) dX4_isOnDuty_13 ?_
    refine lv_aload_n hx hb dX4_isOnDuty_16 rfl (lv_at hl 0 rfl) ?_
    refine k_gi (C := RX4) (T := TX4) (N := 12) (ci := 5) (v := r 33 i) S hG (fun w h => List.mem_cons_of_mem _ (List.mem_append_right _ h)) (3000 + i) (hlv.kp hi) (kJ_kp hi9) rfl 5 (by decide) rfl (hts (.fieldLink RX4 45 "SwarmLine$Keeper" "to" "I") (by decide +kernel)) rfl (rfl) dX4_isOnDuty_17 ?_
    refine k_callPN (n := 3) (As := [.int h, .int (r 32 i), .int (r 33 i)]) (rest := []) (st1 := .int (fIn h (r 32 i) (r 33 i)) :: []) S (c_X9_isWithin h (r 32 i) (r 33 i)) gX4_isOnDuty_X9_isWithin_n48 rfl (by decide +kernel) (hts (.initialized RX9) (by decide +kernel)) (hts (.static yX9_isWithin) (by decide +kernel)) (by decide +kernel) ⟨Nat.le_of_ble_eq_true rfl, Nat.le_of_ble_eq_true rfl⟩ rfl hl.1 rfl (Nat.le_of_ble_eq_true rfl) dX4_isOnDuty_20 ⟨Nat.zero_le _, Nat.zero_le _⟩ (rfl) ?_
    exact g_zret S.1 hr hlocks (fIn_nb _ _ _) hG hL (congrArg (fun z => some (Value.int z)) (by simp only [kOd, eq_false c8, if_true, if_false])) (congr (congrArg (kJ ce0 ad K.2.2.1 cI cB cO cR) (by rfl)) (by rfl)) dX4_isOnDuty_23

set_option maxHeartbeats 4000000 in
set_option maxRecDepth 100000 in
theorem c_X9_whatIsAgainst {l : Launch} {D : va_G} {cI cZ cB cO cR cJ : ClassId} {Hb : Heap} {K : kTx} {lv : Nat → Prop} {ad : Nat → Nat} {ce0 : Nat → va_E} (s : Nat → Int32) (r : Nat → Nat → Int32) (hlv : kL lv s) (i : Nat) (hi : i < (s 26).toNatClampNeg) (hi9 : i < 1000) (j : Nat) (hj : j < (s 39).toNatClampNeg) (hj9 : j < 1000)  : kMet l D cI cZ cB cO cR cJ Hb K lv ad ce0 yX9_whatIsAgainst wsX9_whatIsAgainst 2 43 [.ref (ad 100), .ref (ad (3000 + i)), .ref (ad (4000 + j))] s r (some (.int (kAg i j s r))) s r := by
  refine Met.ofW (cc := cX9_whatIsAgainst) (maxL := 3) (ret := (some .int)) (by decide) rfl ?_
  intro p0 e0 s0 m0 args below meth c0 s₁ B hml hv
  obtain ⟨rfl, hG, hK, hE⟩ := hv
  have hx := B.exec
  have hb := B.bytes
  have hr := B.returns
  have hts := atoms_spec (ws := wsX9_whatIsAgainst) B.pre
  have hown : s0.vm.findClass RX9 = some m0.cls := findClass_of_methodNamed B.named
  have hlocks := B.notSynchronized
  have S : kX p0 m0 c0 cX9_whatIsAgainst 3 s0 _ wsX9_whatIsAgainst RX9 D (tyL cI cZ cB cO cR cJ) Hb K := ⟨⟨hx, hb, hml, hown, hts⟩, hK, hE⟩
  have hL : gL Hb [] := gL.nil
  have hH := hG.2.2.2.2
  have hl := lv_entry ([.ref (ad 100), .ref (ad (3000 + i)), .ref (ad (4000 + j))]) (n := 3) (Nat.le_of_ble_eq_true rfl)
  rw [lg_entry_eq]
  generalize (lg_sl ([.ref (ad 100), .ref (ad (3000 + i)), .ref (ad (4000 + j))]) ++ List.replicate (3 - (lg_sl ([.ref (ad 100), .ref (ad (3000 + i)), .ref (ad (4000 + j))])).length) Slot.unset).toArray = ls at hl ⊢
  have hl : lv_has ls 3 [(0, .ref (ad 100)), (1, .ref (ad (3000 + i))), (2, .ref (ad (4000 + j)))] := hl
  refine lv_aload_n hx hb dX9_whatIsAgainst_0 rfl (lv_at hl 1 rfl) ?_
  refine lv_aload_n hx hb dX9_whatIsAgainst_1 rfl (lv_at hl 0 rfl) ?_
  refine k_gi (C := RX9) (T := TX9) (N := 14) (ci := 10) (v := s 1) S hG (fun w h => List.mem_cons_of_mem _ (List.mem_append_left _ (List.mem_append_left _ (List.mem_append_right _ h)))) 100 (hlv.f (by decide) (by decide)) rfl rfl 12 (by decide) rfl (hts (.fieldLink RX9 71 "SwarmLine" "now" "I") (by decide +kernel)) rfl (rfl) dX9_whatIsAgainst_2 ?_
  refine lv_bipush (v := 24) hx hb dX9_whatIsAgainst_5 (by decide) ?_
  refine lv_irem hx hb dX9_whatIsAgainst_7 (by decide) ?_
  refine k_callV (n := 1) (As := [.int ((s 1) - (s 1) / 24 * 24)]) (rest := []) (st1 := .int (kOd ((s 1) - (s 1) / 24 * 24) i r) :: []) (k := 3000 + i) (ci := 5) S hG hL (hlv.kp hi) (kJ_kp hi9) rfl (c_X4_isOnDuty s r hlv i hi hi9 ((s 1) - (s 1) / 24 * 24) ) gX9_whatIsAgainst_X4_isOnDuty rfl ⟨rfl, rfl⟩ (by decide +kernel) ⟨Nat.le_of_ble_eq_true rfl, Nat.le_of_ble_eq_true rfl⟩ rfl hl.1 rfl (Nat.le_of_ble_eq_true rfl) dX9_whatIsAgainst_8 ⟨Nat.zero_le _, Nat.zero_le _⟩ (rfl) (fun H locs hG hL => ?_)
  refine lv_if_ne (tgt := 16) hx hb dX9_whatIsAgainst_11 (by decide) (fun c11 => ?_) (fun c11 => ?_)
  ·
    refine lv_aload_n hx hb dX9_whatIsAgainst_16 rfl (lv_at hl 1 rfl) ?_
    refine k_giN (C := RX4) (T := TX4) (N := 12) (ci := 5) (v := r 34 i) S hG (fun w h => List.mem_cons_of_mem _ (List.mem_append_left _ (List.mem_append_right _ h))) (3000 + i) (hlv.kp hi) (kJ_kp hi9) rfl 7 (by decide) rfl (by decide +kernel) rfl (rfl) dX9_whatIsAgainst_17 ?_
    refine lv_if_eq (tgt := 25) hx hb dX9_whatIsAgainst_20 (by decide) (fun c20 => ?_) (fun c20 => ?_)
    ·
      refine lv_aload_n hx hb dX9_whatIsAgainst_25 rfl (lv_at hl 1 rfl) ?_
      refine k_giN (C := RX4) (T := TX4) (N := 12) (ci := 5) (v := r 29 i) S hG (fun w h => List.mem_cons_of_mem _ (List.mem_append_left _ (List.mem_append_right _ h))) (3000 + i) (hlv.kp hi) (kJ_kp hi9) rfl 6 (by decide) rfl (by decide +kernel) rfl (rfl) dX9_whatIsAgainst_26 ?_
      refine lv_iconst (v := 1) hx hb dX9_whatIsAgainst_29 (by decide) ?_
      refine lv_icmp_ge (tgt := 35) hx hb dX9_whatIsAgainst_30 (by decide) (fun c30 => ?_) (fun c30 => ?_)
      ·
        refine lv_aload_n hx hb dX9_whatIsAgainst_35 rfl (lv_at hl 1 rfl) ?_
        refine k_giN (C := RX4) (T := TX4) (N := 12) (ci := 5) (v := r 30 i) S hG (fun w h => List.mem_cons_of_mem _ (List.mem_append_left _ (List.mem_append_right _ h))) (3000 + i) (hlv.kp hi) (kJ_kp hi9) rfl 2 (by decide) rfl (by decide +kernel) rfl (rfl) dX9_whatIsAgainst_36 ?_
        refine lv_aload_n hx hb dX9_whatIsAgainst_39 rfl (lv_at hl 2 rfl) ?_
        refine k_giN (C := RX1) (T := TX1) (N := 11) (ci := 2) (v := r 45 j) S hG (fun w h => List.mem_cons_of_mem _ (List.mem_append_right _ h)) (4000 + j) (hlv.ca hj) (kJ_ca hj9) rfl 4 (by decide) rfl (by decide +kernel) rfl (rfl) dX9_whatIsAgainst_40 ?_
        refine lv_icmp_ge (tgt := 50) hx hb dX9_whatIsAgainst_43 (by decide) (fun c43 => ?_) (fun c43 => ?_)
        ·
          refine lv_iconst (v := 0) hx hb dX9_whatIsAgainst_50 (by decide) ?_
          exact g_iret S.1 hr hlocks hG hL (congrArg (fun z => some (Value.int z)) (by simp only [kAg, eq_false c11, eq_true c20, eq_true c30, eq_true c43, if_true, if_false])) (congr (congrArg (kJ ce0 ad K.2.2.1 cI cB cO cR) (by rfl)) (by rfl)) dX9_whatIsAgainst_51
        ·
          refine lv_iconst (v := 4) hx hb dX9_whatIsAgainst_46 (by decide) ?_
          refine lv_goto (tgt := 51) hx hb dX9_whatIsAgainst_47 (by decide) ?_
          exact g_iret S.1 hr hlocks hG hL (congrArg (fun z => some (Value.int z)) (by simp only [kAg, eq_false c11, eq_true c20, eq_true c30, eq_false c43, if_true, if_false])) (congr (congrArg (kJ ce0 ad K.2.2.1 cI cB cO cR) (by rfl)) (by rfl)) dX9_whatIsAgainst_51
      ·
        refine lv_iconst (v := 3) hx hb dX9_whatIsAgainst_33 (by decide) ?_
        exact g_iret S.1 hr hlocks hG hL (congrArg (fun z => some (Value.int z)) (by simp only [kAg, eq_false c11, eq_true c20, eq_false c30, if_true, if_false])) (congr (congrArg (kJ ce0 ad K.2.2.1 cI cB cO cR) (by rfl)) (by rfl)) dX9_whatIsAgainst_34
    ·
      refine lv_iconst (v := 2) hx hb dX9_whatIsAgainst_23 (by decide) ?_
      exact g_iret S.1 hr hlocks hG hL (congrArg (fun z => some (Value.int z)) (by simp only [kAg, eq_false c11, eq_false c20, if_true, if_false])) (congr (congrArg (kJ ce0 ad K.2.2.1 cI cB cO cR) (by rfl)) (by rfl)) dX9_whatIsAgainst_24
  ·
    refine lv_iconst (v := 1) hx hb dX9_whatIsAgainst_14 (by decide) ?_
    exact g_iret S.1 hr hlocks hG hL (congrArg (fun z => some (Value.int z)) (by simp only [kAg, eq_true c11, if_true, if_false])) (congr (congrArg (kJ ce0 ad K.2.2.1 cI cB cO cR) (by rfl)) (by rfl)) dX9_whatIsAgainst_15

set_option maxHeartbeats 4000000 in
set_option maxRecDepth 100000 in
theorem c_X5_warmthOf {l : Launch} {D : va_G} {cI cZ cB cO cR cJ : ClassId} {Hb : Heap} {K : kTx} {lv : Nat → Prop} {ad : Nat → Nat} {ce0 : Nat → va_E} (s : Nat → Int32) (r : Nat → Nat → Int32) (hlv : kL lv s) (d : Int32) (h0 : 0 ≤ d.toInt) : kMet l D cI cZ cB cO cR cJ Hb K lv ad ce0 yX5_warmthOf wsX5_warmthOf 2 44 [.ref (ad 103), .int d] s r (some (.int (r 2 (Int32.toNatClampNeg (cap30 d))))) s r := by
  refine Met.ofW (cc := cX5_warmthOf) (maxL := 2) (ret := (some .int)) (by decide) rfl ?_
  intro p0 e0 s0 m0 args below meth c0 s₁ B hml hv
  obtain ⟨rfl, hG, hK, hE⟩ := hv
  have hx := B.exec
  have hb := B.bytes
  have hr := B.returns
  have hts := atoms_spec (ws := wsX5_warmthOf) B.pre
  have hown : s0.vm.findClass RX5 = some m0.cls := findClass_of_methodNamed B.named
  have hlocks := B.notSynchronized
  have S : kX p0 m0 c0 cX5_warmthOf 2 s0 _ wsX5_warmthOf RX5 D (tyL cI cZ cB cO cR cJ) Hb K := ⟨⟨hx, hb, hml, hown, hts⟩, hK, hE⟩
  have hL : gL Hb [] := gL.nil
  have hH := hG.2.2.2.2
  have hl := lv_entry ([.ref (ad 103), .int d]) (n := 2) (Nat.le_of_ble_eq_true rfl)
  rw [lg_entry_eq]
  generalize (lg_sl ([.ref (ad 103), .int d]) ++ List.replicate (2 - (lg_sl ([.ref (ad 103), .int d])).length) Slot.unset).toArray = ls at hl ⊢
  have hl : lv_has ls 2 [(0, .ref (ad 103)), (1, .int d)] := hl
  refine lv_aload_n hx hb dX5_warmthOf_0 rfl (lv_at hl 0 rfl) ?_
  refine k_ga (C := RX5) (T := TX5) (N := 4) (ci := 6) (v := .ref (ad 113)) S hG (fun w h => List.mem_cons_of_mem _ (List.mem_append_right _ h)) 103 (hlv.f (by decide) (by decide)) rfl rfl 0 (by decide) rfl (hts (.fieldLink RX5 11 "SwarmLine$Sky" "warmth" "[I") (by decide +kernel)) rfl dX5_warmthOf_1 ?_
  refine lv_iload_n hx hb dX5_warmthOf_4 rfl (lv_at hl 1 rfl) ?_
  refine m_callP (n := 1) (As := [.int d]) (rest := [.ref (ad 113)]) (st1 := .int (cap30 d) :: [.ref (ad 113)]) S.1 (c_X5_held d) gX5_warmthOf_X5_held rfl (by decide +kernel) ⟨Nat.le_of_ble_eq_true rfl, Nat.le_of_ble_eq_true rfl⟩ rfl hl.1 rfl (Nat.le_of_ble_eq_true rfl) dX5_warmthOf_5 ⟨Nat.zero_le _, Nat.zero_le _⟩ (by rw [kHd_cap h0]; rfl) ?_
  refine k_ild (j := Int32.toNatClampNeg (cap30 d)) (v := r 2 (Int32.toNatClampNeg (cap30 d))) S hG 113 (hlv.f (by decide) (by decide)) rfl rfl (show vp_in (cap30 d) 31 from cap30_in h0) (rfl) dX5_warmthOf_8 ?_
  exact g_iret S.1 hr hlocks hG hL (congrArg (fun z => some (Value.int z)) (by rfl)) (congr (congrArg (kJ ce0 ad K.2.2.1 cI cB cO cR) (by rfl)) (by rfl)) dX5_warmthOf_9

set_option maxHeartbeats 4000000 in
set_option maxRecDepth 100000 in
theorem c_X5_bloomOf {l : Launch} {D : va_G} {cI cZ cB cO cR cJ : ClassId} {Hb : Heap} {K : kTx} {lv : Nat → Prop} {ad : Nat → Nat} {ce0 : Nat → va_E} (s : Nat → Int32) (r : Nat → Nat → Int32) (hlv : kL lv s) (d : Int32) (h0 : 0 ≤ d.toInt) : kMet l D cI cZ cB cO cR cJ Hb K lv ad ce0 yX5_bloomOf wsX5_bloomOf 2 44 [.ref (ad 103), .int d] s r (some (.int (r 3 (Int32.toNatClampNeg (cap30 d))))) s r := by
  refine Met.ofW (cc := cX5_bloomOf) (maxL := 2) (ret := (some .int)) (by decide) rfl ?_
  intro p0 e0 s0 m0 args below meth c0 s₁ B hml hv
  obtain ⟨rfl, hG, hK, hE⟩ := hv
  have hx := B.exec
  have hb := B.bytes
  have hr := B.returns
  have hts := atoms_spec (ws := wsX5_bloomOf) B.pre
  have hown : s0.vm.findClass RX5 = some m0.cls := findClass_of_methodNamed B.named
  have hlocks := B.notSynchronized
  have S : kX p0 m0 c0 cX5_bloomOf 2 s0 _ wsX5_bloomOf RX5 D (tyL cI cZ cB cO cR cJ) Hb K := ⟨⟨hx, hb, hml, hown, hts⟩, hK, hE⟩
  have hL : gL Hb [] := gL.nil
  have hH := hG.2.2.2.2
  have hl := lv_entry ([.ref (ad 103), .int d]) (n := 2) (Nat.le_of_ble_eq_true rfl)
  rw [lg_entry_eq]
  generalize (lg_sl ([.ref (ad 103), .int d]) ++ List.replicate (2 - (lg_sl ([.ref (ad 103), .int d])).length) Slot.unset).toArray = ls at hl ⊢
  have hl : lv_has ls 2 [(0, .ref (ad 103)), (1, .int d)] := hl
  refine lv_aload_n hx hb dX5_bloomOf_0 rfl (lv_at hl 0 rfl) ?_
  refine k_ga (C := RX5) (T := TX5) (N := 4) (ci := 6) (v := .ref (ad 114)) S hG (fun w h => List.mem_cons_of_mem _ (List.mem_append_right _ h)) 103 (hlv.f (by decide) (by decide)) rfl rfl 1 (by decide) rfl (hts (.fieldLink RX5 15 "SwarmLine$Sky" "bloom" "[I") (by decide +kernel)) rfl dX5_bloomOf_1 ?_
  refine lv_iload_n hx hb dX5_bloomOf_4 rfl (lv_at hl 1 rfl) ?_
  refine m_callP (n := 1) (As := [.int d]) (rest := [.ref (ad 114)]) (st1 := .int (cap30 d) :: [.ref (ad 114)]) S.1 (c_X5_held d) gX5_bloomOf_X5_held rfl (by decide +kernel) ⟨Nat.le_of_ble_eq_true rfl, Nat.le_of_ble_eq_true rfl⟩ rfl hl.1 rfl (Nat.le_of_ble_eq_true rfl) dX5_bloomOf_5 ⟨Nat.zero_le _, Nat.zero_le _⟩ (by rw [kHd_cap h0]; rfl) ?_
  refine k_ild (j := Int32.toNatClampNeg (cap30 d)) (v := r 3 (Int32.toNatClampNeg (cap30 d))) S hG 114 (hlv.f (by decide) (by decide)) rfl rfl (show vp_in (cap30 d) 31 from cap30_in h0) (rfl) dX5_bloomOf_8 ?_
  exact g_iret S.1 hr hlocks hG hL (congrArg (fun z => some (Value.int z)) (by rfl)) (congr (congrArg (kJ ce0 ad K.2.2.1 cI cB cO cR) (by rfl)) (by rfl)) dX5_bloomOf_9

set_option maxHeartbeats 4000000 in
set_option maxRecDepth 100000 in
theorem c_X5_reckonedWarmth {l : Launch} {D : va_G} {cI cZ cB cO cR cJ : ClassId} {Hb : Heap} {K : kTx} {lv : Nat → Prop} {ad : Nat → Nat} {ce0 : Nat → va_E} (s : Nat → Int32) (r : Nat → Nat → Int32) (hlv : kL lv s) (d : Int32) (t : Int32) (q : Int32) (h0 : 0 ≤ d.toInt) : kMet l D cI cZ cB cO cR cJ Hb K lv ad ce0 yX5_reckonedWarmth wsX5_reckonedWarmth 3 65 [.ref (ad 103), .int d, .int t, .int q] s r (some (.int (kRk d t q r))) s r := by
  refine Met.ofW (cc := cX5_reckonedWarmth) (maxL := 4) (ret := (some .int)) (by decide) rfl ?_
  intro p0 e0 s0 m0 args below meth c0 s₁ B hml hv
  obtain ⟨rfl, hG, hK, hE⟩ := hv
  have hx := B.exec
  have hb := B.bytes
  have hr := B.returns
  have hts := atoms_spec (ws := wsX5_reckonedWarmth) B.pre
  have hown : s0.vm.findClass RX5 = some m0.cls := findClass_of_methodNamed B.named
  have hlocks := B.notSynchronized
  have S : kX p0 m0 c0 cX5_reckonedWarmth 4 s0 _ wsX5_reckonedWarmth RX5 D (tyL cI cZ cB cO cR cJ) Hb K := ⟨⟨hx, hb, hml, hown, hts⟩, hK, hE⟩
  have hL : gL Hb [] := gL.nil
  have hH := hG.2.2.2.2
  have hl := lv_entry ([.ref (ad 103), .int d, .int t, .int q]) (n := 4) (Nat.le_of_ble_eq_true rfl)
  rw [lg_entry_eq]
  generalize (lg_sl ([.ref (ad 103), .int d, .int t, .int q]) ++ List.replicate (4 - (lg_sl ([.ref (ad 103), .int d, .int t, .int q])).length) Slot.unset).toArray = ls at hl ⊢
  have hl : lv_has ls 4 [(0, .ref (ad 103)), (1, .int d), (2, .int t), (3, .int q)] := hl
  refine lv_iload_n hx hb dX5_reckonedWarmth_0 rfl (lv_at hl 1 rfl) ?_
  refine lv_iload_n hx hb dX5_reckonedWarmth_1 rfl (lv_at hl 2 rfl) ?_
  refine lv_icmp_gt (tgt := 11) hx hb dX5_reckonedWarmth_2 (by decide) (fun c2 => ?_) (fun c2 => ?_)
  ·
    refine lv_iload_n hx hb dX5_reckonedWarmth_11 rfl (lv_at hl 3 rfl) ?_
    refine lv_if_eq (tgt := 27) hx hb dX5_reckonedWarmth_12 (by decide) (fun c12 => ?_) (fun c12 => ?_)
    ·
      refine lv_aload_n hx hb dX5_reckonedWarmth_27 rfl (lv_at hl 0 rfl) ?_
      refine k_ga (C := RX5) (T := TX5) (N := 4) (ci := 6) (v := .ref (ad 115)) S hG (fun w h => List.mem_cons_of_mem _ (List.mem_append_right _ h)) 103 (hlv.f (by decide) (by decide)) rfl rfl 2 (by decide) rfl (hts (.fieldLink RX5 18 "SwarmLine$Sky" "least" "[I") (by decide +kernel)) rfl dX5_reckonedWarmth_28 ?_
      refine lv_iload_n hx hb dX5_reckonedWarmth_31 rfl (lv_at hl 1 rfl) ?_
      refine m_callP (n := 1) (As := [.int d]) (rest := [.ref (ad 115)]) (st1 := .int (cap30 d) :: [.ref (ad 115)]) S.1 (c_X5_held d) gX5_reckonedWarmth_X5_held rfl (by decide +kernel) ⟨Nat.le_of_ble_eq_true rfl, Nat.le_of_ble_eq_true rfl⟩ rfl hl.1 rfl (Nat.le_of_ble_eq_true rfl) dX5_reckonedWarmth_32 ⟨Nat.zero_le _, Nat.zero_le _⟩ (by rw [kHd_cap h0]; rfl) ?_
      refine k_ild (j := Int32.toNatClampNeg (cap30 d)) (v := r 4 (Int32.toNatClampNeg (cap30 d))) S hG 115 (hlv.f (by decide) (by decide)) rfl rfl (show vp_in (cap30 d) 31 from cap30_in h0) (rfl) dX5_reckonedWarmth_35 ?_
      exact g_iret S.1 hr hlocks hG hL (congrArg (fun z => some (Value.int z)) (by simp only [kRk, eq_true c2, eq_true c12, if_true, if_false])) (congr (congrArg (kJ ce0 ad K.2.2.1 cI cB cO cR) (by rfl)) (by rfl)) dX5_reckonedWarmth_36
    ·
      refine lv_aload_n hx hb dX5_reckonedWarmth_15 rfl (lv_at hl 0 rfl) ?_
      refine k_ga (C := RX5) (T := TX5) (N := 4) (ci := 6) (v := .ref (ad 116)) S hG (fun w h => List.mem_cons_of_mem _ (List.mem_append_right _ h)) 103 (hlv.f (by decide) (by decide)) rfl rfl 3 (by decide) rfl (hts (.fieldLink RX5 21 "SwarmLine$Sky" "greatest" "[I") (by decide +kernel)) rfl dX5_reckonedWarmth_16 ?_
      refine lv_iload_n hx hb dX5_reckonedWarmth_19 rfl (lv_at hl 1 rfl) ?_
      refine m_callP (n := 1) (As := [.int d]) (rest := [.ref (ad 116)]) (st1 := .int (cap30 d) :: [.ref (ad 116)]) S.1 (c_X5_held d) gX5_reckonedWarmth_X5_held rfl (by decide +kernel) ⟨Nat.le_of_ble_eq_true rfl, Nat.le_of_ble_eq_true rfl⟩ rfl hl.1 rfl (Nat.le_of_ble_eq_true rfl) dX5_reckonedWarmth_20 ⟨Nat.zero_le _, Nat.zero_le _⟩ (by rw [kHd_cap h0]; rfl) ?_
      refine k_ild (j := Int32.toNatClampNeg (cap30 d)) (v := r 5 (Int32.toNatClampNeg (cap30 d))) S hG 116 (hlv.f (by decide) (by decide)) rfl rfl (show vp_in (cap30 d) 31 from cap30_in h0) (rfl) dX5_reckonedWarmth_23 ?_
      refine lv_goto (tgt := 36) hx hb dX5_reckonedWarmth_24 (by decide) ?_
      exact g_iret S.1 hr hlocks hG hL (congrArg (fun z => some (Value.int z)) (by simp only [kRk, eq_true c2, eq_false c12, if_true, if_false])) (congr (congrArg (kJ ce0 ad K.2.2.1 cI cB cO cR) (by rfl)) (by rfl)) dX5_reckonedWarmth_36
  ·
    refine lv_aload_n hx hb dX5_reckonedWarmth_5 rfl (lv_at hl 0 rfl) ?_
    refine lv_iload_n hx hb dX5_reckonedWarmth_6 rfl (lv_at hl 1 rfl) ?_
    refine k_callV (n := 1) (As := [.int d]) (rest := []) (st1 := .int (r 2 (Int32.toNatClampNeg (cap30 d))) :: []) (k := 103) (ci := 6) S hG hL (hlv.f (by decide) (by decide)) rfl rfl (c_X5_warmthOf s r hlv  d (h0)) gX5_reckonedWarmth_X5_warmthOf rfl ⟨rfl, rfl⟩ (by decide +kernel) ⟨Nat.le_of_ble_eq_true rfl, Nat.le_of_ble_eq_true rfl⟩ rfl hl.1 rfl (Nat.le_of_ble_eq_true rfl) dX5_reckonedWarmth_7 ⟨Nat.zero_le _, Nat.zero_le _⟩ (rfl) (fun H locs hG hL => ?_)
    exact g_iret S.1 hr hlocks hG hL (congrArg (fun z => some (Value.int z)) (by simp only [kRk, eq_false c2, if_true, if_false])) (congr (congrArg (kJ ce0 ad K.2.2.1 cI cB cO cR) (by rfl)) (by rfl)) dX5_reckonedWarmth_10

set_option maxHeartbeats 4000000 in
set_option maxRecDepth 100000 in
theorem c_X6_losePatience {l : Launch} {D : va_G} {cI cZ cB cO cR cJ : ClassId} {Hb : Heap} {K : kTx} {lv : Nat → Prop} {ad : Nat → Nat} {ce0 : Nat → va_E} (s : Nat → Int32) (r : Nat → Nat → Int32) (hlv : kL lv s) (i : Nat) (hi : i < (s 14).toNatClampNeg) (hi9 : i < 1000) (lo : Int32) (now : Int32)  : kMet l D cI cZ cB cO cR cJ Hb K lv ad ce0 yX6_losePatience wsX6_losePatience 0 0 [.ref (ad (2000 + i)), .int lo, .int now] s r none s (lpR i lo now r) := by
  refine Met.ofW (cc := cX6_losePatience) (maxL := 3) (ret := none) (by decide) rfl ?_
  intro p0 e0 s0 m0 args below meth c0 s₁ B hml hv
  obtain ⟨rfl, hG, hK, hE⟩ := hv
  have hx := B.exec
  have hb := B.bytes
  have hr := B.returns
  have hts := atoms_spec (ws := wsX6_losePatience) B.pre
  have hown : s0.vm.findClass RX6 = some m0.cls := findClass_of_methodNamed B.named
  have hlocks := B.notSynchronized
  have S : kX p0 m0 c0 cX6_losePatience 3 s0 _ wsX6_losePatience RX6 D (tyL cI cZ cB cO cR cJ) Hb K := ⟨⟨hx, hb, hml, hown, hts⟩, hK, hE⟩
  have hL : gL Hb [] := gL.nil
  have hH := hG.2.2.2.2
  have hl := lv_entry ([.ref (ad (2000 + i)), .int lo, .int now]) (n := 3) (Nat.le_of_ble_eq_true rfl)
  rw [lg_entry_eq]
  generalize (lg_sl ([.ref (ad (2000 + i)), .int lo, .int now]) ++ List.replicate (3 - (lg_sl ([.ref (ad (2000 + i)), .int lo, .int now])).length) Slot.unset).toArray = ls at hl ⊢
  have hl : lv_has ls 3 [(0, .ref (ad (2000 + i))), (1, .int lo), (2, .int now)] := hl
  refine lv_aload_n hx hb dX6_losePatience_0 rfl (lv_at hl 0 rfl) ?_
  refine k_gi (C := RX6) (T := TX6) (N := 11) (ci := 7) (v := r 15 i) S hG (fun w h => List.mem_cons_of_mem _ (List.mem_append_right _ h)) (2000 + i) (hlv.sw hi) (kJ_sw hi9) rfl 7 (by decide) rfl (hts (.fieldLink RX6 15 "SwarmLine$Swarm" "state" "I") (by decide +kernel)) rfl (rfl) dX6_losePatience_1 ?_
  refine lv_if_eq (tgt := 8) hx hb dX6_losePatience_4 (by decide) (fun c4 => ?_) (fun c4 => ?_)
  ·
    refine lv_aload_n hx hb dX6_losePatience_8 rfl (lv_at hl 0 rfl) ?_
    refine lv_dup hx hb dX6_losePatience_9 rfl ?_
    refine k_gi (C := RX6) (T := TX6) (N := 11) (ci := 7) (v := r 22 i) S hG (fun w h => List.mem_cons_of_mem _ (List.mem_append_right _ h)) (2000 + i) (hlv.sw hi) (kJ_sw hi9) rfl 6 (by decide) rfl (hts (.fieldLink RX6 9 "SwarmLine$Swarm" "patience" "I") (by decide +kernel)) rfl (rfl) dX6_losePatience_10 ?_
    refine lv_iload_n hx hb dX6_losePatience_13 rfl (lv_at hl 1 rfl) ?_
    refine lv_isub hx hb dX6_losePatience_14 ?_
    refine k_pi (C := RX6) (T := TX6) (N := 11) (ci := 7) (ty := .int) S hG hL (fun w h => List.mem_cons_of_mem _ (List.mem_append_right _ h)) tyX6 tyX6_ok nmX6 (2000 + i) (hlv.sw hi) (kJ_sw hi9) rfl 6 (by decide) rfl (hts (.fieldLink RX6 9 "SwarmLine$Swarm" "patience" "I") (by decide +kernel)) rfl (by decide +kernel) rfl rfl (Nat.le_of_ble_eq_true rfl) (kw_sw_patience hi9 _) dX6_losePatience_15 (fun H locs hG hL => ?_)
    refine lv_aload_n hx hb dX6_losePatience_18 rfl (lv_at hl 0 rfl) ?_
    refine k_gi (C := RX6) (T := TX6) (N := 11) (ci := 7) (v := (r 22 i) - lo) S hG (fun w h => List.mem_cons_of_mem _ (List.mem_append_right _ h)) (2000 + i) (hlv.sw hi) (kJ_sw hi9) rfl 6 (by decide) rfl (hts (.fieldLink RX6 9 "SwarmLine$Swarm" "patience" "I") (by decide +kernel)) rfl (up2_ss ..) dX6_losePatience_19 ?_
    refine lv_if_gt (tgt := 35) hx hb dX6_losePatience_22 (by decide) (fun c22 => ?_) (fun c22 => ?_)
    ·
      exact g_vret S.1 hr hlocks hG hL rfl (congr (congrArg (kJ ce0 ad K.2.2.1 cI cB cO cR) (by rfl)) (by simp only [lpR, eq_true c4, eq_true c22, nle_of c22, if_true, if_false])) dX6_losePatience_35
    ·
      refine lv_aload_n hx hb dX6_losePatience_25 rfl (lv_at hl 0 rfl) ?_
      refine lv_iconst (v := 2) hx hb dX6_losePatience_26 (by decide) ?_
      refine k_pi (C := RX6) (T := TX6) (N := 11) (ci := 7) (ty := .int) S hG hL (fun w h => List.mem_cons_of_mem _ (List.mem_append_right _ h)) tyX6 tyX6_ok nmX6 (2000 + i) (hlv.sw hi) (kJ_sw hi9) rfl 7 (by decide) rfl (hts (.fieldLink RX6 15 "SwarmLine$Swarm" "state" "I") (by decide +kernel)) rfl (by decide +kernel) rfl rfl (Nat.le_of_ble_eq_true rfl) (kw_sw_state hi9 _) dX6_losePatience_27 (fun H locs hG hL => ?_)
      refine lv_aload_n hx hb dX6_losePatience_30 rfl (lv_at hl 0 rfl) ?_
      refine lv_iload_n hx hb dX6_losePatience_31 rfl (lv_at hl 2 rfl) ?_
      refine k_pi (C := RX6) (T := TX6) (N := 11) (ci := 7) (ty := .int) S hG hL (fun w h => List.mem_cons_of_mem _ (List.mem_append_right _ h)) tyX6 tyX6_ok nmX6 (2000 + i) (hlv.sw hi) (kJ_sw hi9) rfl 10 (by decide) rfl (hts (.fieldLink RX6 24 "SwarmLine$Swarm" "ended" "I") (by decide +kernel)) rfl (by decide +kernel) rfl rfl (Nat.le_of_ble_eq_true rfl) (kw_sw_ended hi9 _) dX6_losePatience_32 (fun H locs hG hL => ?_)
      exact g_vret S.1 hr hlocks hG hL rfl (congr (congrArg (kJ ce0 ad K.2.2.1 cI cB cO cR) (by rfl)) (by simp only [lpR, eq_true c4, eq_false c22, le_of c22, if_true, if_false])) dX6_losePatience_35
  ·
    exact g_vret S.1 hr hlocks hG hL rfl (congr (congrArg (kJ ce0 ad K.2.2.1 cI cB cO cR) (by rfl)) (by simp only [lpR, eq_false c4, if_true, if_false])) dX6_losePatience_7

set_option maxHeartbeats 4000000 in
set_option maxRecDepth 100000 in
theorem c_X3_grow {l : Launch} {D : va_G} {cI cZ cB cO cR cJ : ClassId} {Hb : Heap} {K : kTx} {lv : Nat → Prop} {ad : Nat → Nat} {ce0 : Nat → va_E} (s : Nat → Int32) (r : Nat → Nat → Int32) (hlv : kL lv s) (i : Nat) (hi : i < (s 6).toNatClampNeg) (hi9 : i < 1000) (bl : Int32) (wa : Int32)  : kMet l D cI cZ cB cO cR cJ Hb K lv ad ce0 yX3_grow wsX3_grow 1 24 [.ref (ad (1000 + i)), .int bl, .int wa] s r none s (gwR i bl wa r) := by
  refine Met.ofW (cc := cX3_grow) (maxL := 3) (ret := none) (by decide) rfl ?_
  intro p0 e0 s0 m0 args below meth c0 s₁ B hml hv
  obtain ⟨rfl, hG, hK, hE⟩ := hv
  have hx := B.exec
  have hb := B.bytes
  have hr := B.returns
  have hts := atoms_spec (ws := wsX3_grow) B.pre
  have hown : s0.vm.findClass RX3 = some m0.cls := findClass_of_methodNamed B.named
  have hlocks := B.notSynchronized
  have S : kX p0 m0 c0 cX3_grow 3 s0 _ wsX3_grow RX3 D (tyL cI cZ cB cO cR cJ) Hb K := ⟨⟨hx, hb, hml, hown, hts⟩, hK, hE⟩
  have hL : gL Hb [] := gL.nil
  have hH := hG.2.2.2.2
  have hl := lv_entry ([.ref (ad (1000 + i)), .int bl, .int wa]) (n := 3) (Nat.le_of_ble_eq_true rfl)
  rw [lg_entry_eq]
  generalize (lg_sl ([.ref (ad (1000 + i)), .int bl, .int wa]) ++ List.replicate (3 - (lg_sl ([.ref (ad (1000 + i)), .int bl, .int wa])).length) Slot.unset).toArray = ls at hl ⊢
  have hl : lv_has ls 3 [(0, .ref (ad (1000 + i))), (1, .int bl), (2, .int wa)] := hl
  refine lv_aload_n hx hb dX3_grow_0 rfl (lv_at hl 0 rfl) ?_
  refine lv_aload_n hx hb dX3_grow_1 rfl (lv_at hl 0 rfl) ?_
  refine k_gi (C := RX3) (T := TX3) (N := 7) (ci := 4) (v := r 9 i) S hG (fun w h => List.mem_cons_of_mem _ (List.mem_append_right _ h)) (1000 + i) (hlv.hv hi) (kJ_hv hi9) rfl 4 (by decide) rfl (hts (.fieldLink RX3 24 "SwarmLine$Hive" "bees" "I") (by decide +kernel)) rfl (rfl) dX3_grow_2 ?_
  refine lv_aload_n hx hb dX3_grow_5 rfl (lv_at hl 0 rfl) ?_
  refine k_gi (C := RX3) (T := TX3) (N := 7) (ci := 4) (v := r 9 i) S hG (fun w h => List.mem_cons_of_mem _ (List.mem_append_right _ h)) (1000 + i) (hlv.hv hi) (kJ_hv hi9) rfl 4 (by decide) rfl (hts (.fieldLink RX3 24 "SwarmLine$Hive" "bees" "I") (by decide +kernel)) rfl (rfl) dX3_grow_6 ?_
  refine lv_iload_n hx hb dX3_grow_9 rfl (lv_at hl 1 rfl) ?_
  refine lv_imul hx hb dX3_grow_10 ?_
  refine lv_sipush (v := 1000) hx hb dX3_grow_11 (by decide) ?_
  refine lv_idiv hx hb dX3_grow_14 (by decide) ?_
  refine lv_iadd hx hb dX3_grow_15 ?_
  refine lv_ldc (v := 100000) hx hb hown (hts (.constant RX3 33 100000) (by decide +kernel)) dX3_grow_16 ?_
  refine va_mmin hx hb (hml.trans hl.1.symm) hown (hts (.methodLink RX3 34 Lib.Math.min.name) (by decide +kernel)) (hts (.static Lib.Math.min.name) (by decide +kernel)) (hts (.initialized "java/lang/Math") (by decide +kernel)) (hts (.code Lib.Math.min.name Lib.Math.min.code 2 (some .int)) (by decide +kernel)) (Nat.le_of_ble_eq_true rfl) (Nat.le_of_ble_eq_true rfl) (Nat.zero_le _) (Nat.zero_le _) dX3_grow_18 ?_
  refine lv_topi (fun z9 e9 => ?_)
  have e9 : z9 = gwB i bl r := e9.trans (min_sw _ _)
  subst e9
  refine k_pi (C := RX3) (T := TX3) (N := 7) (ci := 4) (ty := .int) S hG hL (fun w h => List.mem_cons_of_mem _ (List.mem_append_right _ h)) tyX3 tyX3_ok nmX3 (1000 + i) (hlv.hv hi) (kJ_hv hi9) rfl 4 (by decide) rfl (hts (.fieldLink RX3 24 "SwarmLine$Hive" "bees" "I") (by decide +kernel)) rfl (by decide +kernel) rfl rfl (Nat.le_of_ble_eq_true rfl) (kw_hv_bees hi9 _) dX3_grow_21 (fun H locs hG hL => ?_)
  refine lv_aload_n hx hb dX3_grow_24 rfl (lv_at hl 0 rfl) ?_
  refine lv_iload_n hx hb dX3_grow_25 rfl (lv_at hl 2 rfl) ?_
  refine lv_bipush (v := 18) hx hb dX3_grow_26 (by decide) ?_
  refine lv_icmp_lt (tgt := 40) hx hb dX3_grow_28 (by decide) (fun c28 => ?_) (fun c28 => ?_)
  ·
    refine lv_iconst (v := 0) hx hb dX3_grow_40 (by decide) ?_
    refine k_pi (C := RX3) (T := TX3) (N := 7) (ci := 4) (ty := .int) S hG hL (fun w h => List.mem_cons_of_mem _ (List.mem_append_right _ h)) tyX3 tyX3_ok nmX3 (1000 + i) (hlv.hv hi) (kJ_hv hi9) rfl 5 (by decide) rfl (hts (.fieldLink RX3 9 "SwarmLine$Hive" "warm" "I") (by decide +kernel)) rfl (by decide +kernel) rfl rfl (Nat.le_of_ble_eq_true rfl) (kw_hv_warm hi9 _) dX3_grow_41 (fun H locs hG hL => ?_)
    exact g_vret S.1 hr hlocks hG hL rfl (congr (congrArg (kJ ce0 ad K.2.2.1 cI cB cO cR) (by rfl)) (by simp only [gwR, eq_true c28, if_true, if_false])) dX3_grow_44
  ·
    refine lv_aload_n hx hb dX3_grow_31 rfl (lv_at hl 0 rfl) ?_
    refine k_gi (C := RX3) (T := TX3) (N := 7) (ci := 4) (v := r 12 i) S hG (fun w h => List.mem_cons_of_mem _ (List.mem_append_right _ h)) (1000 + i) (hlv.hv hi) (kJ_hv hi9) rfl 5 (by decide) rfl (hts (.fieldLink RX3 9 "SwarmLine$Hive" "warm" "I") (by decide +kernel)) rfl ((up2_n _ _ _ _ (by decide)).trans (rfl)) dX3_grow_32 ?_
    refine lv_iconst (v := 1) hx hb dX3_grow_35 (by decide) ?_
    refine lv_iadd hx hb dX3_grow_36 ?_
    refine lv_goto (tgt := 41) hx hb dX3_grow_37 (by decide) ?_
    refine k_pi (C := RX3) (T := TX3) (N := 7) (ci := 4) (ty := .int) S hG hL (fun w h => List.mem_cons_of_mem _ (List.mem_append_right _ h)) tyX3 tyX3_ok nmX3 (1000 + i) (hlv.hv hi) (kJ_hv hi9) rfl 5 (by decide) rfl (hts (.fieldLink RX3 9 "SwarmLine$Hive" "warm" "I") (by decide +kernel)) rfl (by decide +kernel) rfl rfl (Nat.le_of_ble_eq_true rfl) (kw_hv_warm hi9 _) dX3_grow_41 (fun H locs hG hL => ?_)
    exact g_vret S.1 hr hlocks hG hL rfl (congr (congrArg (kJ ce0 ad K.2.2.1 cI cB cO cR) (by rfl)) (by simp only [gwR, eq_false c28, if_true, if_false])) dX3_grow_44

set_option maxHeartbeats 4000000 in
set_option maxRecDepth 100000 in
theorem c_X3_agreesWith {l : Launch} {D : va_G} {cI cZ cB cO cR cJ : ClassId} {Hb : Heap} {K : kTx} {lv : Nat → Prop} {ad : Nat → Nat} {ce0 : Nat → va_E} (s : Nat → Int32) (r : Nat → Nat → Int32) (hlv : kL lv s) (i : Nat) (hi : i < (s 6).toNatClampNeg) (hi9 : i < 1000) (j : Nat) (hj : j < (s 14).toNatClampNeg) (hj9 : j < 1000) (mk : Int32)  : kMet l D cI cZ cB cO cR cJ Hb K lv ad ce0 yX3_agreesWith wsX3_agreesWith 2 47 [.ref (ad (1000 + i)), .ref (ad (2000 + j)), .int mk] s r (some (.int (kAw i j mk r))) s r := by
  refine Met.ofW (cc := cX3_agreesWith) (maxL := 3) (ret := (some .boolean)) (by decide) rfl ?_
  intro p0 e0 s0 m0 args below meth c0 s₁ B hml hv
  obtain ⟨rfl, hG, hK, hE⟩ := hv
  have hx := B.exec
  have hb := B.bytes
  have hr := B.returns
  have hts := atoms_spec (ws := wsX3_agreesWith) B.pre
  have hown : s0.vm.findClass RX3 = some m0.cls := findClass_of_methodNamed B.named
  have hlocks := B.notSynchronized
  have S : kX p0 m0 c0 cX3_agreesWith 3 s0 _ wsX3_agreesWith RX3 D (tyL cI cZ cB cO cR cJ) Hb K := ⟨⟨hx, hb, hml, hown, hts⟩, hK, hE⟩
  have hL : gL Hb [] := gL.nil
  have hH := hG.2.2.2.2
  have hl := lv_entry ([.ref (ad (1000 + i)), .ref (ad (2000 + j)), .int mk]) (n := 3) (Nat.le_of_ble_eq_true rfl)
  rw [lg_entry_eq]
  generalize (lg_sl ([.ref (ad (1000 + i)), .ref (ad (2000 + j)), .int mk]) ++ List.replicate (3 - (lg_sl ([.ref (ad (1000 + i)), .ref (ad (2000 + j)), .int mk])).length) Slot.unset).toArray = ls at hl ⊢
  have hl : lv_has ls 3 [(0, .ref (ad (1000 + i))), (1, .ref (ad (2000 + j))), (2, .int mk)] := hl
  refine lv_aload_n hx hb dX3_agreesWith_0 rfl (lv_at hl 0 rfl) ?_
  refine k_gi (C := RX3) (T := TX3) (N := 7) (ci := 4) (v := r 13 i) S hG (fun w h => List.mem_cons_of_mem _ (List.mem_append_left _ (List.mem_append_right _ h))) (1000 + i) (hlv.hv hi) (kJ_hv hi9) rfl 6 (by decide) rfl (hts (.fieldLink RX3 15 "SwarmLine$Hive" "swarmedLast" "I") (by decide +kernel)) rfl (rfl) dX3_agreesWith_1 ?_
  refine lv_iconst (v := (-1)) hx hb dX3_agreesWith_4 (by decide) ?_
  refine lv_icmp_eq (tgt := 65) hx hb dX3_agreesWith_5 (by decide) (fun c5 => ?_) (fun c5 => ?_)
  ·
    refine lv_iconst (v := 0) hx hb dX3_agreesWith_65 (by decide) ?_
    exact g_zret S.1 hr hlocks (by decide) hG hL (congrArg (fun z => some (Value.int z)) (by simp only [kAw, eq_true c5, if_true, if_false])) (congr (congrArg (kJ ce0 ad K.2.2.1 cI cB cO cR) (by rfl)) (by rfl)) dX3_agreesWith_66
  ·
    refine lv_aload_n hx hb dX3_agreesWith_8 rfl (lv_at hl 1 rfl) ?_
    refine k_giN (C := RX6) (T := TX6) (N := 11) (ci := 7) (v := r 24 j) S hG (fun w h => List.mem_cons_of_mem _ (List.mem_append_right _ h)) (2000 + j) (hlv.sw hj) (kJ_sw hj9) rfl 10 (by decide) rfl (by decide +kernel) rfl (rfl) dX3_agreesWith_9 ?_
    refine lv_aload_n hx hb dX3_agreesWith_12 rfl (lv_at hl 0 rfl) ?_
    refine k_gi (C := RX3) (T := TX3) (N := 7) (ci := 4) (v := r 13 i) S hG (fun w h => List.mem_cons_of_mem _ (List.mem_append_left _ (List.mem_append_right _ h))) (1000 + i) (hlv.hv hi) (kJ_hv hi9) rfl 6 (by decide) rfl (hts (.fieldLink RX3 15 "SwarmLine$Hive" "swarmedLast" "I") (by decide +kernel)) rfl (rfl) dX3_agreesWith_13 ?_
    refine lv_isub hx hb dX3_agreesWith_16 ?_
    refine lv_iconst (v := 0) hx hb dX3_agreesWith_17 (by decide) ?_
    refine lv_bipush (v := 60) hx hb dX3_agreesWith_18 (by decide) ?_
    refine k_callPN (n := 3) (As := [.int ((r 24 j) - (r 13 i)), .int 0, .int 60]) (rest := []) (st1 := .int (fIn ((r 24 j) - (r 13 i)) 0 60) :: []) S (c_X9_isWithin ((r 24 j) - (r 13 i)) 0 60) gX3_agreesWith_X9_isWithin_n47 rfl (by decide +kernel) (hts (.initialized RX9) (by decide +kernel)) (hts (.static yX9_isWithin) (by decide +kernel)) (by decide +kernel) ⟨Nat.le_of_ble_eq_true rfl, Nat.le_of_ble_eq_true rfl⟩ rfl hl.1 rfl (Nat.le_of_ble_eq_true rfl) dX3_agreesWith_20 ⟨Nat.zero_le _, Nat.zero_le _⟩ (rfl) ?_
    refine lv_if_eq (tgt := 65) hx hb dX3_agreesWith_23 (by decide) (fun c23 => ?_) (fun c23 => ?_)
    ·
      refine lv_iconst (v := 0) hx hb dX3_agreesWith_65 (by decide) ?_
      exact g_zret S.1 hr hlocks (by decide) hG hL (congrArg (fun z => some (Value.int z)) (by simp only [kAw, eq_false c5, eq_true c23, if_true, if_false])) (congr (congrArg (kJ ce0 ad K.2.2.1 cI cB cO cR) (by rfl)) (by rfl)) dX3_agreesWith_66
    ·
      refine lv_aload_n hx hb dX3_agreesWith_26 rfl (lv_at hl 0 rfl) ?_
      refine k_gi (C := RX3) (T := TX3) (N := 7) (ci := 4) (v := r 7 i) S hG (fun w h => List.mem_cons_of_mem _ (List.mem_append_left _ (List.mem_append_right _ h))) (1000 + i) (hlv.hv hi) (kJ_hv hi9) rfl 0 (by decide) rfl (hts (.fieldLink RX3 18 "SwarmLine$Hive" "x" "I") (by decide +kernel)) rfl (rfl) dX3_agreesWith_27 ?_
      refine lv_aload_n hx hb dX3_agreesWith_30 rfl (lv_at hl 0 rfl) ?_
      refine k_gi (C := RX3) (T := TX3) (N := 7) (ci := 4) (v := r 8 i) S hG (fun w h => List.mem_cons_of_mem _ (List.mem_append_left _ (List.mem_append_right _ h))) (1000 + i) (hlv.hv hi) (kJ_hv hi9) rfl 1 (by decide) rfl (hts (.fieldLink RX3 21 "SwarmLine$Hive" "y" "I") (by decide +kernel)) rfl (rfl) dX3_agreesWith_31 ?_
      refine lv_aload_n hx hb dX3_agreesWith_34 rfl (lv_at hl 1 rfl) ?_
      refine k_giN (C := RX6) (T := TX6) (N := 11) (ci := 7) (v := r 18 j) S hG (fun w h => List.mem_cons_of_mem _ (List.mem_append_right _ h)) (2000 + j) (hlv.sw hj) (kJ_sw hj9) rfl 2 (by decide) rfl (by decide +kernel) rfl (rfl) dX3_agreesWith_35 ?_
      refine lv_aload_n hx hb dX3_agreesWith_38 rfl (lv_at hl 1 rfl) ?_
      refine k_giN (C := RX6) (T := TX6) (N := 11) (ci := 7) (v := r 19 j) S hG (fun w h => List.mem_cons_of_mem _ (List.mem_append_right _ h)) (2000 + j) (hlv.sw hj) (kJ_sw hj9) rfl 3 (by decide) rfl (by decide +kernel) rfl (rfl) dX3_agreesWith_39 ?_
      refine k_callPN (n := 4) (As := [.int (r 7 i), .int (r 8 i), .int (r 18 j), .int (r 19 j)]) (rest := []) (st1 := .int (kSt (r 7 i) (r 8 i) (r 18 j) (r 19 j)) :: []) S (c_X9_stepsBetween (r 7 i) (r 8 i) (r 18 j) (r 19 j)) gX3_agreesWith_X9_stepsBetween_n53 rfl (by decide +kernel) (hts (.initialized RX9) (by decide +kernel)) (hts (.static yX9_stepsBetween) (by decide +kernel)) (by decide +kernel) ⟨Nat.le_of_ble_eq_true rfl, Nat.le_of_ble_eq_true rfl⟩ rfl hl.1 rfl (Nat.le_of_ble_eq_true rfl) dX3_agreesWith_42 ⟨Nat.zero_le _, Nat.zero_le _⟩ (rfl) ?_
      refine lv_iconst (v := 3) hx hb dX3_agreesWith_45 (by decide) ?_
      refine lv_icmp_gt (tgt := 65) hx hb dX3_agreesWith_46 (by decide) (fun c46 => ?_) (fun c46 => ?_)
      ·
        refine lv_iconst (v := 0) hx hb dX3_agreesWith_65 (by decide) ?_
        exact g_zret S.1 hr hlocks (by decide) hG hL (congrArg (fun z => some (Value.int z)) (by simp only [kAw, eq_false c5, eq_false c23, eq_true c46, if_true, if_false])) (congr (congrArg (kJ ce0 ad K.2.2.1 cI cB cO cR) (by rfl)) (by rfl)) dX3_agreesWith_66
      ·
        refine lv_iload_n hx hb dX3_agreesWith_49 rfl (lv_at hl 2 rfl) ?_
        refine lv_if_eq (tgt := 61) hx hb dX3_agreesWith_50 (by decide) (fun c50 => ?_) (fun c50 => ?_)
        ·
          refine lv_iconst (v := 1) hx hb dX3_agreesWith_61 (by decide) ?_
          refine lv_goto (tgt := 66) hx hb dX3_agreesWith_62 (by decide) ?_
          exact g_zret S.1 hr hlocks (by decide) hG hL (congrArg (fun z => some (Value.int z)) (by simp only [kAw, eq_false c5, eq_false c23, eq_false c46, eq_true c50, if_true, if_false])) (congr (congrArg (kJ ce0 ad K.2.2.1 cI cB cO cR) (by rfl)) (by rfl)) dX3_agreesWith_66
        ·
          refine lv_iload_n hx hb dX3_agreesWith_53 rfl (lv_at hl 2 rfl) ?_
          refine lv_aload_n hx hb dX3_agreesWith_54 rfl (lv_at hl 0 rfl) ?_
          refine k_gi (C := RX3) (T := TX3) (N := 7) (ci := 4) (v := r 11 i) S hG (fun w h => List.mem_cons_of_mem _ (List.mem_append_left _ (List.mem_append_right _ h))) (1000 + i) (hlv.hv hi) (kJ_hv hi9) rfl 3 (by decide) rfl (hts (.fieldLink RX3 30 "SwarmLine$Hive" "mark" "I") (by decide +kernel)) rfl (rfl) dX3_agreesWith_55 ?_
          refine lv_icmp_ne (tgt := 65) hx hb dX3_agreesWith_58 (by decide) (fun c58 => ?_) (fun c58 => ?_)
          ·
            refine lv_iconst (v := 0) hx hb dX3_agreesWith_65 (by decide) ?_
            exact g_zret S.1 hr hlocks (by decide) hG hL (congrArg (fun z => some (Value.int z)) (by simp only [kAw, eq_false c5, eq_false c23, eq_false c46, eq_false c50, eq_false c58, if_true, if_false])) (congr (congrArg (kJ ce0 ad K.2.2.1 cI cB cO cR) (by rfl)) (by rfl)) dX3_agreesWith_66
          ·
            refine lv_iconst (v := 1) hx hb dX3_agreesWith_61 (by decide) ?_
            refine lv_goto (tgt := 66) hx hb dX3_agreesWith_62 (by decide) ?_
            exact g_zret S.1 hr hlocks (by decide) hG hL (congrArg (fun z => some (Value.int z)) (by simp only [kAw, eq_false c5, eq_false c23, eq_false c46, eq_false c50, eq_true c58, if_true, if_false])) (congr (congrArg (kJ ce0 ad K.2.2.1 cI cB cO cR) (by rfl)) (by rfl)) dX3_agreesWith_66

set_option maxHeartbeats 4000000 in
set_option maxRecDepth 100000 in
theorem c_X1_isAlike {l : Launch} {D : va_G} {cI cZ cB cO cR cJ : ClassId} {Hb : Heap} {K : kTx} {lv : Nat → Prop} {ad : Nat → Nat} {ce0 : Nat → va_E} (s : Nat → Int32) (r : Nat → Nat → Int32) (hlv : kL lv s) (i : Nat) (hi : i < (s 39).toNatClampNeg) (hi9 : i < 1000) (now : Int32)  : kMet l D cI cZ cB cO cR cJ Hb K lv ad ce0 yX1_isAlike wsX1_isAlike 2 47 [.ref (ad (4000 + i)), .ref (ad 102), .int now] s r (some (.int (kAl i now s r))) s r := by
  refine Met.ofW (cc := cX1_isAlike) (maxL := 3) (ret := (some .boolean)) (by decide) rfl ?_
  intro p0 e0 s0 m0 args below meth c0 s₁ B hml hv
  obtain ⟨rfl, hG, hK, hE⟩ := hv
  have hx := B.exec
  have hb := B.bytes
  have hr := B.returns
  have hts := atoms_spec (ws := wsX1_isAlike) B.pre
  have hown : s0.vm.findClass RX1 = some m0.cls := findClass_of_methodNamed B.named
  have hlocks := B.notSynchronized
  have S : kX p0 m0 c0 cX1_isAlike 3 s0 _ wsX1_isAlike RX1 D (tyL cI cZ cB cO cR cJ) Hb K := ⟨⟨hx, hb, hml, hown, hts⟩, hK, hE⟩
  have hL : gL Hb [] := gL.nil
  have hH := hG.2.2.2.2
  have hl := lv_entry ([.ref (ad (4000 + i)), .ref (ad 102), .int now]) (n := 3) (Nat.le_of_ble_eq_true rfl)
  rw [lg_entry_eq]
  generalize (lg_sl ([.ref (ad (4000 + i)), .ref (ad 102), .int now]) ++ List.replicate (3 - (lg_sl ([.ref (ad (4000 + i)), .ref (ad 102), .int now])).length) Slot.unset).toArray = ls at hl ⊢
  have hl : lv_has ls 3 [(0, .ref (ad (4000 + i))), (1, .ref (ad 102)), (2, .int now)] := hl
  refine lv_aload_n hx hb dX1_isAlike_0 rfl (lv_at hl 0 rfl) ?_
  refine k_gi (C := RX1) (T := TX1) (N := 11) (ci := 2) (v := r 41 i) S hG (fun w h => List.mem_cons_of_mem _ (List.mem_append_left _ (List.mem_append_right _ h))) (4000 + i) (hlv.ca hi) (kJ_ca hi9) rfl 3 (by decide) rfl (hts (.fieldLink RX1 15 "SwarmLine$Case" "state" "I") (by decide +kernel)) rfl (rfl) dX1_isAlike_1 ?_
  refine lv_if_eq (tgt := 15) hx hb dX1_isAlike_4 (by decide) (fun c4 => ?_) (fun c4 => ?_)
  ·
    refine lv_aload_n hx hb dX1_isAlike_15 rfl (lv_at hl 0 rfl) ?_
    refine k_gi (C := RX1) (T := TX1) (N := 11) (ci := 2) (v := r 42 i) S hG (fun w h => List.mem_cons_of_mem _ (List.mem_append_left _ (List.mem_append_right _ h))) (4000 + i) (hlv.ca hi) (kJ_ca hi9) rfl 0 (by decide) rfl (hts (.fieldLink RX1 40 "SwarmLine$Case" "x" "I") (by decide +kernel)) rfl (rfl) dX1_isAlike_16 ?_
    refine lv_aload_n hx hb dX1_isAlike_19 rfl (lv_at hl 0 rfl) ?_
    refine k_gi (C := RX1) (T := TX1) (N := 11) (ci := 2) (v := r 43 i) S hG (fun w h => List.mem_cons_of_mem _ (List.mem_append_left _ (List.mem_append_right _ h))) (4000 + i) (hlv.ca hi) (kJ_ca hi9) rfl 1 (by decide) rfl (hts (.fieldLink RX1 43 "SwarmLine$Case" "y" "I") (by decide +kernel)) rfl (rfl) dX1_isAlike_20 ?_
    refine lv_aload_n hx hb dX1_isAlike_23 rfl (lv_at hl 1 rfl) ?_
    refine k_giN (C := RX2) (T := TX2) (N := 6) (ci := 3) (v := s 104) S hG (fun w h => List.mem_cons_of_mem _ (List.mem_append_right _ h)) 102 (hlv.f (by decide) (by decide)) rfl rfl 0 (by decide) rfl (by decide +kernel) rfl (rfl) dX1_isAlike_24 ?_
    refine lv_aload_n hx hb dX1_isAlike_27 rfl (lv_at hl 1 rfl) ?_
    refine k_giN (C := RX2) (T := TX2) (N := 6) (ci := 3) (v := s 105) S hG (fun w h => List.mem_cons_of_mem _ (List.mem_append_right _ h)) 102 (hlv.f (by decide) (by decide)) rfl rfl 1 (by decide) rfl (by decide +kernel) rfl (rfl) dX1_isAlike_28 ?_
    refine k_callPN (n := 4) (As := [.int (r 42 i), .int (r 43 i), .int (s 104), .int (s 105)]) (rest := []) (st1 := .int (kSt (r 42 i) (r 43 i) (s 104) (s 105)) :: []) S (c_X9_stepsBetween (r 42 i) (r 43 i) (s 104) (s 105)) gX1_isAlike_X9_stepsBetween_n50 rfl (by decide +kernel) (hts (.initialized RX9) (by decide +kernel)) (hts (.static yX9_stepsBetween) (by decide +kernel)) (by decide +kernel) ⟨Nat.le_of_ble_eq_true rfl, Nat.le_of_ble_eq_true rfl⟩ rfl hl.1 rfl (Nat.le_of_ble_eq_true rfl) dX1_isAlike_31 ⟨Nat.zero_le _, Nat.zero_le _⟩ (rfl) ?_
    refine lv_iconst (v := 1) hx hb dX1_isAlike_34 (by decide) ?_
    refine lv_icmp_gt (tgt := 78) hx hb dX1_isAlike_35 (by decide) (fun c35 => ?_) (fun c35 => ?_)
    ·
      refine lv_iconst (v := 0) hx hb dX1_isAlike_78 (by decide) ?_
      exact g_zret S.1 hr hlocks (by decide) hG hL (congrArg (fun z => some (Value.int z)) (by simp only [kAl, eq_true c4, eq_true c35, if_true, if_false, true_or, or_true, or_self, false_or])) (congr (congrArg (kJ ce0 ad K.2.2.1 cI cB cO cR) (by rfl)) (by rfl)) dX1_isAlike_79
    ·
      refine lv_iload_n hx hb dX1_isAlike_38 rfl (lv_at hl 2 rfl) ?_
      refine lv_aload_n hx hb dX1_isAlike_39 rfl (lv_at hl 0 rfl) ?_
      refine k_gi (C := RX1) (T := TX1) (N := 11) (ci := 2) (v := r 49 i) S hG (fun w h => List.mem_cons_of_mem _ (List.mem_append_left _ (List.mem_append_right _ h))) (4000 + i) (hlv.ca hi) (kJ_ca hi9) rfl 8 (by decide) rfl (hts (.fieldLink RX1 31 "SwarmLine$Case" "latest" "I") (by decide +kernel)) rfl (rfl) dX1_isAlike_40 ?_
      refine lv_isub hx hb dX1_isAlike_43 ?_
      refine lv_bipush (v := 6) hx hb dX1_isAlike_44 (by decide) ?_
      refine lv_icmp_gt (tgt := 78) hx hb dX1_isAlike_46 (by decide) (fun c46 => ?_) (fun c46 => ?_)
      ·
        refine lv_iconst (v := 0) hx hb dX1_isAlike_78 (by decide) ?_
        exact g_zret S.1 hr hlocks (by decide) hG hL (congrArg (fun z => some (Value.int z)) (by simp only [kAl, eq_true c4, eq_false c35, eq_true c46, if_true, if_false, true_or, or_true, or_self, false_or])) (congr (congrArg (kJ ce0 ad K.2.2.1 cI cB cO cR) (by rfl)) (by rfl)) dX1_isAlike_79
      ·
        refine lv_aload_n hx hb dX1_isAlike_49 rfl (lv_at hl 0 rfl) ?_
        refine k_gi (C := RX1) (T := TX1) (N := 11) (ci := 2) (v := r 47 i) S hG (fun w h => List.mem_cons_of_mem _ (List.mem_append_left _ (List.mem_append_right _ h))) (4000 + i) (hlv.ca hi) (kJ_ca hi9) rfl 6 (by decide) rfl (hts (.fieldLink RX1 25 "SwarmLine$Case" "mark" "I") (by decide +kernel)) rfl (rfl) dX1_isAlike_50 ?_
        refine lv_if_eq (tgt := 74) hx hb dX1_isAlike_53 (by decide) (fun c53 => ?_) (fun c53 => ?_)
        ·
          refine lv_iconst (v := 1) hx hb dX1_isAlike_74 (by decide) ?_
          refine lv_goto (tgt := 79) hx hb dX1_isAlike_75 (by decide) ?_
          exact g_zret S.1 hr hlocks (by decide) hG hL (congrArg (fun z => some (Value.int z)) (by simp only [kAl, eq_true c4, eq_false c35, eq_false c46, eq_true c53, if_true, if_false, true_or, or_true, or_self, false_or])) (congr (congrArg (kJ ce0 ad K.2.2.1 cI cB cO cR) (by rfl)) (by rfl)) dX1_isAlike_79
        ·
          refine lv_aload_n hx hb dX1_isAlike_56 rfl (lv_at hl 1 rfl) ?_
          refine k_giN (C := RX2) (T := TX2) (N := 6) (ci := 3) (v := s 108) S hG (fun w h => List.mem_cons_of_mem _ (List.mem_append_right _ h)) 102 (hlv.f (by decide) (by decide)) rfl rfl 4 (by decide) rfl (by decide +kernel) rfl (rfl) dX1_isAlike_57 ?_
          refine lv_if_eq (tgt := 74) hx hb dX1_isAlike_60 (by decide) (fun c60 => ?_) (fun c60 => ?_)
          ·
            refine lv_iconst (v := 1) hx hb dX1_isAlike_74 (by decide) ?_
            refine lv_goto (tgt := 79) hx hb dX1_isAlike_75 (by decide) ?_
            exact g_zret S.1 hr hlocks (by decide) hG hL (congrArg (fun z => some (Value.int z)) (by simp only [kAl, eq_true c4, eq_false c35, eq_false c46, eq_false c53, eq_true c60, if_true, if_false, true_or, or_true, or_self, false_or])) (congr (congrArg (kJ ce0 ad K.2.2.1 cI cB cO cR) (by rfl)) (by rfl)) dX1_isAlike_79
          ·
            refine lv_aload_n hx hb dX1_isAlike_63 rfl (lv_at hl 0 rfl) ?_
            refine k_gi (C := RX1) (T := TX1) (N := 11) (ci := 2) (v := r 47 i) S hG (fun w h => List.mem_cons_of_mem _ (List.mem_append_left _ (List.mem_append_right _ h))) (4000 + i) (hlv.ca hi) (kJ_ca hi9) rfl 6 (by decide) rfl (hts (.fieldLink RX1 25 "SwarmLine$Case" "mark" "I") (by decide +kernel)) rfl (rfl) dX1_isAlike_64 ?_
            refine lv_aload_n hx hb dX1_isAlike_67 rfl (lv_at hl 1 rfl) ?_
            refine k_giN (C := RX2) (T := TX2) (N := 6) (ci := 3) (v := s 108) S hG (fun w h => List.mem_cons_of_mem _ (List.mem_append_right _ h)) 102 (hlv.f (by decide) (by decide)) rfl rfl 4 (by decide) rfl (by decide +kernel) rfl (rfl) dX1_isAlike_68 ?_
            refine lv_icmp_ne (tgt := 78) hx hb dX1_isAlike_71 (by decide) (fun c71 => ?_) (fun c71 => ?_)
            ·
              refine lv_iconst (v := 0) hx hb dX1_isAlike_78 (by decide) ?_
              exact g_zret S.1 hr hlocks (by decide) hG hL (congrArg (fun z => some (Value.int z)) (by simp only [kAl, eq_true c4, eq_false c35, eq_false c46, eq_false c53, eq_false c60, eq_false c71, if_true, if_false, true_or, or_true, or_self, false_or])) (congr (congrArg (kJ ce0 ad K.2.2.1 cI cB cO cR) (by rfl)) (by rfl)) dX1_isAlike_79
            ·
              refine lv_iconst (v := 1) hx hb dX1_isAlike_74 (by decide) ?_
              refine lv_goto (tgt := 79) hx hb dX1_isAlike_75 (by decide) ?_
              exact g_zret S.1 hr hlocks (by decide) hG hL (congrArg (fun z => some (Value.int z)) (by simp only [kAl, eq_true c4, eq_false c35, eq_false c46, eq_false c53, eq_false c60, eq_true c71, if_true, if_false, true_or, or_true, or_self, false_or])) (congr (congrArg (kJ ce0 ad K.2.2.1 cI cB cO cR) (by rfl)) (by rfl)) dX1_isAlike_79
  ·
    refine lv_aload_n hx hb dX1_isAlike_7 rfl (lv_at hl 0 rfl) ?_
    refine k_gi (C := RX1) (T := TX1) (N := 11) (ci := 2) (v := r 41 i) S hG (fun w h => List.mem_cons_of_mem _ (List.mem_append_left _ (List.mem_append_right _ h))) (4000 + i) (hlv.ca hi) (kJ_ca hi9) rfl 3 (by decide) rfl (hts (.fieldLink RX1 15 "SwarmLine$Case" "state" "I") (by decide +kernel)) rfl (rfl) dX1_isAlike_8 ?_
    refine lv_iconst (v := 1) hx hb dX1_isAlike_11 (by decide) ?_
    refine lv_icmp_ne (tgt := 78) hx hb dX1_isAlike_12 (by decide) (fun c12 => ?_) (fun c12 => ?_)
    ·
      refine lv_iconst (v := 0) hx hb dX1_isAlike_78 (by decide) ?_
      exact g_zret S.1 hr hlocks (by decide) hG hL (congrArg (fun z => some (Value.int z)) (by simp only [kAl, eq_false c4, eq_false c12, if_true, if_false, true_or, or_true, or_self, false_or])) (congr (congrArg (kJ ce0 ad K.2.2.1 cI cB cO cR) (by rfl)) (by rfl)) dX1_isAlike_79
    ·
      refine lv_aload_n hx hb dX1_isAlike_15 rfl (lv_at hl 0 rfl) ?_
      refine k_gi (C := RX1) (T := TX1) (N := 11) (ci := 2) (v := r 42 i) S hG (fun w h => List.mem_cons_of_mem _ (List.mem_append_left _ (List.mem_append_right _ h))) (4000 + i) (hlv.ca hi) (kJ_ca hi9) rfl 0 (by decide) rfl (hts (.fieldLink RX1 40 "SwarmLine$Case" "x" "I") (by decide +kernel)) rfl (rfl) dX1_isAlike_16 ?_
      refine lv_aload_n hx hb dX1_isAlike_19 rfl (lv_at hl 0 rfl) ?_
      refine k_gi (C := RX1) (T := TX1) (N := 11) (ci := 2) (v := r 43 i) S hG (fun w h => List.mem_cons_of_mem _ (List.mem_append_left _ (List.mem_append_right _ h))) (4000 + i) (hlv.ca hi) (kJ_ca hi9) rfl 1 (by decide) rfl (hts (.fieldLink RX1 43 "SwarmLine$Case" "y" "I") (by decide +kernel)) rfl (rfl) dX1_isAlike_20 ?_
      refine lv_aload_n hx hb dX1_isAlike_23 rfl (lv_at hl 1 rfl) ?_
      refine k_giN (C := RX2) (T := TX2) (N := 6) (ci := 3) (v := s 104) S hG (fun w h => List.mem_cons_of_mem _ (List.mem_append_right _ h)) 102 (hlv.f (by decide) (by decide)) rfl rfl 0 (by decide) rfl (by decide +kernel) rfl (rfl) dX1_isAlike_24 ?_
      refine lv_aload_n hx hb dX1_isAlike_27 rfl (lv_at hl 1 rfl) ?_
      refine k_giN (C := RX2) (T := TX2) (N := 6) (ci := 3) (v := s 105) S hG (fun w h => List.mem_cons_of_mem _ (List.mem_append_right _ h)) 102 (hlv.f (by decide) (by decide)) rfl rfl 1 (by decide) rfl (by decide +kernel) rfl (rfl) dX1_isAlike_28 ?_
      refine k_callPN (n := 4) (As := [.int (r 42 i), .int (r 43 i), .int (s 104), .int (s 105)]) (rest := []) (st1 := .int (kSt (r 42 i) (r 43 i) (s 104) (s 105)) :: []) S (c_X9_stepsBetween (r 42 i) (r 43 i) (s 104) (s 105)) gX1_isAlike_X9_stepsBetween_n50 rfl (by decide +kernel) (hts (.initialized RX9) (by decide +kernel)) (hts (.static yX9_stepsBetween) (by decide +kernel)) (by decide +kernel) ⟨Nat.le_of_ble_eq_true rfl, Nat.le_of_ble_eq_true rfl⟩ rfl hl.1 rfl (Nat.le_of_ble_eq_true rfl) dX1_isAlike_31 ⟨Nat.zero_le _, Nat.zero_le _⟩ (rfl) ?_
      refine lv_iconst (v := 1) hx hb dX1_isAlike_34 (by decide) ?_
      refine lv_icmp_gt (tgt := 78) hx hb dX1_isAlike_35 (by decide) (fun c35 => ?_) (fun c35 => ?_)
      ·
        refine lv_iconst (v := 0) hx hb dX1_isAlike_78 (by decide) ?_
        exact g_zret S.1 hr hlocks (by decide) hG hL (congrArg (fun z => some (Value.int z)) (by simp only [kAl, eq_false c4, eq_true c12, eq_true c35, if_true, if_false, true_or, or_true, or_self, false_or])) (congr (congrArg (kJ ce0 ad K.2.2.1 cI cB cO cR) (by rfl)) (by rfl)) dX1_isAlike_79
      ·
        refine lv_iload_n hx hb dX1_isAlike_38 rfl (lv_at hl 2 rfl) ?_
        refine lv_aload_n hx hb dX1_isAlike_39 rfl (lv_at hl 0 rfl) ?_
        refine k_gi (C := RX1) (T := TX1) (N := 11) (ci := 2) (v := r 49 i) S hG (fun w h => List.mem_cons_of_mem _ (List.mem_append_left _ (List.mem_append_right _ h))) (4000 + i) (hlv.ca hi) (kJ_ca hi9) rfl 8 (by decide) rfl (hts (.fieldLink RX1 31 "SwarmLine$Case" "latest" "I") (by decide +kernel)) rfl (rfl) dX1_isAlike_40 ?_
        refine lv_isub hx hb dX1_isAlike_43 ?_
        refine lv_bipush (v := 6) hx hb dX1_isAlike_44 (by decide) ?_
        refine lv_icmp_gt (tgt := 78) hx hb dX1_isAlike_46 (by decide) (fun c46 => ?_) (fun c46 => ?_)
        ·
          refine lv_iconst (v := 0) hx hb dX1_isAlike_78 (by decide) ?_
          exact g_zret S.1 hr hlocks (by decide) hG hL (congrArg (fun z => some (Value.int z)) (by simp only [kAl, eq_false c4, eq_true c12, eq_false c35, eq_true c46, if_true, if_false, true_or, or_true, or_self, false_or])) (congr (congrArg (kJ ce0 ad K.2.2.1 cI cB cO cR) (by rfl)) (by rfl)) dX1_isAlike_79
        ·
          refine lv_aload_n hx hb dX1_isAlike_49 rfl (lv_at hl 0 rfl) ?_
          refine k_gi (C := RX1) (T := TX1) (N := 11) (ci := 2) (v := r 47 i) S hG (fun w h => List.mem_cons_of_mem _ (List.mem_append_left _ (List.mem_append_right _ h))) (4000 + i) (hlv.ca hi) (kJ_ca hi9) rfl 6 (by decide) rfl (hts (.fieldLink RX1 25 "SwarmLine$Case" "mark" "I") (by decide +kernel)) rfl (rfl) dX1_isAlike_50 ?_
          refine lv_if_eq (tgt := 74) hx hb dX1_isAlike_53 (by decide) (fun c53 => ?_) (fun c53 => ?_)
          ·
            refine lv_iconst (v := 1) hx hb dX1_isAlike_74 (by decide) ?_
            refine lv_goto (tgt := 79) hx hb dX1_isAlike_75 (by decide) ?_
            exact g_zret S.1 hr hlocks (by decide) hG hL (congrArg (fun z => some (Value.int z)) (by simp only [kAl, eq_false c4, eq_true c12, eq_false c35, eq_false c46, eq_true c53, if_true, if_false, true_or, or_true, or_self, false_or])) (congr (congrArg (kJ ce0 ad K.2.2.1 cI cB cO cR) (by rfl)) (by rfl)) dX1_isAlike_79
          ·
            refine lv_aload_n hx hb dX1_isAlike_56 rfl (lv_at hl 1 rfl) ?_
            refine k_giN (C := RX2) (T := TX2) (N := 6) (ci := 3) (v := s 108) S hG (fun w h => List.mem_cons_of_mem _ (List.mem_append_right _ h)) 102 (hlv.f (by decide) (by decide)) rfl rfl 4 (by decide) rfl (by decide +kernel) rfl (rfl) dX1_isAlike_57 ?_
            refine lv_if_eq (tgt := 74) hx hb dX1_isAlike_60 (by decide) (fun c60 => ?_) (fun c60 => ?_)
            ·
              refine lv_iconst (v := 1) hx hb dX1_isAlike_74 (by decide) ?_
              refine lv_goto (tgt := 79) hx hb dX1_isAlike_75 (by decide) ?_
              exact g_zret S.1 hr hlocks (by decide) hG hL (congrArg (fun z => some (Value.int z)) (by simp only [kAl, eq_false c4, eq_true c12, eq_false c35, eq_false c46, eq_false c53, eq_true c60, if_true, if_false, true_or, or_true, or_self, false_or])) (congr (congrArg (kJ ce0 ad K.2.2.1 cI cB cO cR) (by rfl)) (by rfl)) dX1_isAlike_79
            ·
              refine lv_aload_n hx hb dX1_isAlike_63 rfl (lv_at hl 0 rfl) ?_
              refine k_gi (C := RX1) (T := TX1) (N := 11) (ci := 2) (v := r 47 i) S hG (fun w h => List.mem_cons_of_mem _ (List.mem_append_left _ (List.mem_append_right _ h))) (4000 + i) (hlv.ca hi) (kJ_ca hi9) rfl 6 (by decide) rfl (hts (.fieldLink RX1 25 "SwarmLine$Case" "mark" "I") (by decide +kernel)) rfl (rfl) dX1_isAlike_64 ?_
              refine lv_aload_n hx hb dX1_isAlike_67 rfl (lv_at hl 1 rfl) ?_
              refine k_giN (C := RX2) (T := TX2) (N := 6) (ci := 3) (v := s 108) S hG (fun w h => List.mem_cons_of_mem _ (List.mem_append_right _ h)) 102 (hlv.f (by decide) (by decide)) rfl rfl 4 (by decide) rfl (by decide +kernel) rfl (rfl) dX1_isAlike_68 ?_
              refine lv_icmp_ne (tgt := 78) hx hb dX1_isAlike_71 (by decide) (fun c71 => ?_) (fun c71 => ?_)
              ·
                refine lv_iconst (v := 0) hx hb dX1_isAlike_78 (by decide) ?_
                exact g_zret S.1 hr hlocks (by decide) hG hL (congrArg (fun z => some (Value.int z)) (by simp only [kAl, eq_false c4, eq_true c12, eq_false c35, eq_false c46, eq_false c53, eq_false c60, eq_false c71, if_true, if_false, true_or, or_true, or_self, false_or])) (congr (congrArg (kJ ce0 ad K.2.2.1 cI cB cO cR) (by rfl)) (by rfl)) dX1_isAlike_79
              ·
                refine lv_iconst (v := 1) hx hb dX1_isAlike_74 (by decide) ?_
                refine lv_goto (tgt := 79) hx hb dX1_isAlike_75 (by decide) ?_
                exact g_zret S.1 hr hlocks (by decide) hG hL (congrArg (fun z => some (Value.int z)) (by simp only [kAl, eq_false c4, eq_true c12, eq_false c35, eq_false c46, eq_false c53, eq_false c60, eq_true c71, if_true, if_false, true_or, or_true, or_self, false_or])) (congr (congrArg (kJ ce0 ad K.2.2.1 cI cB cO cR) (by rfl)) (by rfl)) dX1_isAlike_79

set_option maxHeartbeats 4000000 in
set_option maxRecDepth 100000 in
theorem c_X9_swarm {l : Launch} {D : va_G} {cI cZ cB cO cR cJ : ClassId} {Hb : Heap} {K : kTx} {lv : Nat → Prop} {ad : Nat → Nat} {ce0 : Nat → va_E} (hst : l.stackTraces = false) (s : Nat → Int32) (r : Nat → Nat → Int32) (hlv : kL lv s) (k : Int32) (w : Int32) (hb9 : (s 14).toInt ≤ 60) : xMet l D cI cZ cB cO cR cJ Hb K lv ad ce0 yX9_swarm wsX9_swarm 7 113 2 [.ref (ad 100), .int k, .int w] s r (xLk (s 14) k 9 w) (some (.int (tab9 w (r 15 (Int32.toNatClampNeg k)) (r 16 (Int32.toNatClampNeg k)) (r 17 (Int32.toNatClampNeg k)) (r 18 (Int32.toNatClampNeg k)) (r 19 (Int32.toNatClampNeg k)) (r 20 (Int32.toNatClampNeg k)) (r 21 (Int32.toNatClampNeg k)) (r 22 (Int32.toNatClampNeg k)) (r 23 (Int32.toNatClampNeg k)) (r 24 (Int32.toNatClampNeg k))))) s r s r := by
  refine vx_ofW (cc := cX9_swarm) (maxL := 3) (ret := (some .int)) (by decide) rfl ?_
  intro p0 e0 s0 m0 args below meth c0 s₁ B hml hout hv
  obtain ⟨rfl, hG, hK, hE⟩ := hv
  have hx := B.exec
  have hb := B.bytes
  have hr := B.returns
  have hts := atoms_spec (ws := wsX9_swarm) B.pre
  have hown : s0.vm.findClass RX9 = some m0.cls := findClass_of_methodNamed B.named
  have hlocks := B.notSynchronized
  have S : kX p0 m0 c0 cX9_swarm 3 s0 _ wsX9_swarm RX9 D (tyL cI cZ cB cO cR cJ) Hb K := ⟨⟨hx, hb, hml, hown, hts⟩, hK, hE⟩
  have hL : gL Hb [] := gL.nil
  have hH := hG.2.2.2.2
  have hl := lv_entry ([.ref (ad 100), .int k, .int w]) (n := 3) (Nat.le_of_ble_eq_true rfl)
  rw [lg_entry_eq]
  generalize (lg_sl ([.ref (ad 100), .int k, .int w]) ++ List.replicate (3 - (lg_sl ([.ref (ad 100), .int k, .int w])).length) Slot.unset).toArray = ls at hl ⊢
  have hl : lv_has ls 3 [(0, .ref (ad 100)), (1, .int k), (2, .int w)] := hl
  refine lv_aload_n hx hb dX9_swarm_0 rfl (lv_at hl 0 rfl) ?_
  refine lv_iload_n hx hb dX9_swarm_1 rfl (lv_at hl 1 rfl) ?_
  refine x_callV (n := 1) (As := [.int k]) (rest := []) (st1 := .ref (ad (2000 + Int32.toNatClampNeg k)) :: []) (k := 100) (ci := 10) S hG hL (hlv.f (by decide) (by decide)) rfl rfl (c_X9_swarmNumbered hst s r hlv  k (hb9)) gX9_swarm_X9_swarmNumbered rfl ⟨rfl, rfl⟩ (by decide +kernel) ⟨Nat.le_of_ble_eq_true rfl, Nat.le_of_ble_eq_true rfl⟩ rfl hl.1 rfl (Nat.le_of_ble_eq_true rfl) dX9_swarm_2 ⟨Nat.le_of_ble_eq_true rfl, Nat.le_of_ble_eq_true rfl⟩ hout hlocks (fun E9 h9 => ⟨by simp only [xNm, xLk] at h9 ⊢; split at h9 <;> simp_all, rfl⟩) ⟨Nat.le_of_ble_eq_true rfl, Nat.le_of_ble_eq_true rfl⟩ (rfl) (fun ht2 H locs hG hL => ?_)
  refine lv_iload_n hx hb dX9_swarm_5 rfl (lv_at hl 2 rfl) ?_
  refine x_callV (n := 1) (As := [.int w]) (rest := []) (st1 := .int (tab9 w (r 15 (Int32.toNatClampNeg k)) (r 16 (Int32.toNatClampNeg k)) (r 17 (Int32.toNatClampNeg k)) (r 18 (Int32.toNatClampNeg k)) (r 19 (Int32.toNatClampNeg k)) (r 20 (Int32.toNatClampNeg k)) (r 21 (Int32.toNatClampNeg k)) (r 22 (Int32.toNatClampNeg k)) (r 23 (Int32.toNatClampNeg k)) (r 24 (Int32.toNatClampNeg k))) :: []) (k := 2000 + Int32.toNatClampNeg k) (ci := 7) S hG hL (hlv.sw (xNm_lt ht2)) (kJ_sw (xNm_9 ht2 hb9)) rfl (c_X6_told hst s r hlv (Int32.toNatClampNeg k) (xNm_lt ht2) (xNm_9 ht2 hb9) w ) gX9_swarm_X6_told rfl ⟨rfl, rfl⟩ (by decide +kernel) ⟨Nat.le_of_ble_eq_true rfl, Nat.le_of_ble_eq_true rfl⟩ rfl hl.1 rfl (Nat.le_of_ble_eq_true rfl) dX9_swarm_6 ⟨Nat.le_of_ble_eq_true rfl, Nat.le_of_ble_eq_true rfl⟩ hout hlocks (fun E9 h9 => ⟨by unfold xLk; rw [if_neg (xNm_n ht2)]; exact h9, rfl⟩) ⟨Nat.le_of_ble_eq_true rfl, Nat.le_of_ble_eq_true rfl⟩ (rfl) (fun ht6 H locs hG hL => ?_)
  exact x_iret S.1 hr hlocks hG hL (by unfold xLk; rw [if_neg (xNm_n ht2)]; exact ht6) (congrArg (fun z => some (Value.int z)) (by rfl)) (congr (congrArg (kJ ce0 ad K.2.2.1 cI cB cO cR) (by rfl)) (by rfl)) dX9_swarm_9 (Nat.le_of_ble_eq_true rfl) (Nat.le_of_ble_eq_true rfl)

set_option maxHeartbeats 4000000 in
set_option maxRecDepth 100000 in
theorem c_X9_crew {l : Launch} {D : va_G} {cI cZ cB cO cR cJ : ClassId} {Hb : Heap} {K : kTx} {lv : Nat → Prop} {ad : Nat → Nat} {ce0 : Nat → va_E} (hst : l.stackTraces = false) (s : Nat → Int32) (r : Nat → Nat → Int32) (hlv : kL lv s) (k : Int32) (w : Int32) (hb9 : (s 26).toInt ≤ 60) : xMet l D cI cZ cB cO cR cJ Hb K lv ad ce0 yX9_crew wsX9_crew 7 113 2 [.ref (ad 100), .int k, .int w] s r (xLk (s 26) k 4 w) (some (.int ((if w = 0 then r 34 (Int32.toNatClampNeg k) else if w = 1 then r 29 (Int32.toNatClampNeg k) else if w = 2 then r 35 (Int32.toNatClampNeg k) else if w = 3 then r 37 (Int32.toNatClampNeg k) else r 38 (Int32.toNatClampNeg k))))) s r s r := by
  refine vx_ofW (cc := cX9_crew) (maxL := 3) (ret := (some .int)) (by decide) rfl ?_
  intro p0 e0 s0 m0 args below meth c0 s₁ B hml hout hv
  obtain ⟨rfl, hG, hK, hE⟩ := hv
  have hx := B.exec
  have hb := B.bytes
  have hr := B.returns
  have hts := atoms_spec (ws := wsX9_crew) B.pre
  have hown : s0.vm.findClass RX9 = some m0.cls := findClass_of_methodNamed B.named
  have hlocks := B.notSynchronized
  have S : kX p0 m0 c0 cX9_crew 3 s0 _ wsX9_crew RX9 D (tyL cI cZ cB cO cR cJ) Hb K := ⟨⟨hx, hb, hml, hown, hts⟩, hK, hE⟩
  have hL : gL Hb [] := gL.nil
  have hH := hG.2.2.2.2
  have hl := lv_entry ([.ref (ad 100), .int k, .int w]) (n := 3) (Nat.le_of_ble_eq_true rfl)
  rw [lg_entry_eq]
  generalize (lg_sl ([.ref (ad 100), .int k, .int w]) ++ List.replicate (3 - (lg_sl ([.ref (ad 100), .int k, .int w])).length) Slot.unset).toArray = ls at hl ⊢
  have hl : lv_has ls 3 [(0, .ref (ad 100)), (1, .int k), (2, .int w)] := hl
  refine lv_aload_n hx hb dX9_crew_0 rfl (lv_at hl 0 rfl) ?_
  refine lv_iload_n hx hb dX9_crew_1 rfl (lv_at hl 1 rfl) ?_
  refine x_callV (n := 1) (As := [.int k]) (rest := []) (st1 := .ref (ad (3000 + Int32.toNatClampNeg k)) :: []) (k := 100) (ci := 10) S hG hL (hlv.f (by decide) (by decide)) rfl rfl (c_X9_keeperNumbered hst s r hlv  k (hb9)) gX9_crew_X9_keeperNumbered rfl ⟨rfl, rfl⟩ (by decide +kernel) ⟨Nat.le_of_ble_eq_true rfl, Nat.le_of_ble_eq_true rfl⟩ rfl hl.1 rfl (Nat.le_of_ble_eq_true rfl) dX9_crew_2 ⟨Nat.le_of_ble_eq_true rfl, Nat.le_of_ble_eq_true rfl⟩ hout hlocks (fun E9 h9 => ⟨by simp only [xNm, xLk] at h9 ⊢; split at h9 <;> simp_all, rfl⟩) ⟨Nat.le_of_ble_eq_true rfl, Nat.le_of_ble_eq_true rfl⟩ (rfl) (fun ht2 H locs hG hL => ?_)
  refine lv_iload_n hx hb dX9_crew_5 rfl (lv_at hl 2 rfl) ?_
  refine x_callV (n := 1) (As := [.int w]) (rest := []) (st1 := .int (if w = 0 then r 34 (Int32.toNatClampNeg k) else if w = 1 then r 29 (Int32.toNatClampNeg k) else if w = 2 then r 35 (Int32.toNatClampNeg k) else if w = 3 then r 37 (Int32.toNatClampNeg k) else r 38 (Int32.toNatClampNeg k)) :: []) (k := 3000 + Int32.toNatClampNeg k) (ci := 5) S hG hL (hlv.kp (xNm_lt ht2)) (kJ_kp (xNm_9 ht2 hb9)) rfl (c_X4_told hst s r hlv (Int32.toNatClampNeg k) (xNm_lt ht2) (xNm_9 ht2 hb9) w ) gX9_crew_X4_told rfl ⟨rfl, rfl⟩ (by decide +kernel) ⟨Nat.le_of_ble_eq_true rfl, Nat.le_of_ble_eq_true rfl⟩ rfl hl.1 rfl (Nat.le_of_ble_eq_true rfl) dX9_crew_6 ⟨Nat.le_of_ble_eq_true rfl, Nat.le_of_ble_eq_true rfl⟩ hout hlocks (fun E9 h9 => ⟨by unfold xLk; rw [if_neg (xNm_n ht2)]; exact h9, rfl⟩) ⟨Nat.le_of_ble_eq_true rfl, Nat.le_of_ble_eq_true rfl⟩ (rfl) (fun ht6 H locs hG hL => ?_)
  exact x_iret S.1 hr hlocks hG hL (by unfold xLk; rw [if_neg (xNm_n ht2)]; exact ht6) (congrArg (fun z => some (Value.int z)) (by rfl)) (congr (congrArg (kJ ce0 ad K.2.2.1 cI cB cO cR) (by rfl)) (by rfl)) dX9_crew_9 (Nat.le_of_ble_eq_true rfl) (Nat.le_of_ble_eq_true rfl)

set_option maxHeartbeats 4000000 in
set_option maxRecDepth 100000 in
theorem c_X9_matter {l : Launch} {D : va_G} {cI cZ cB cO cR cJ : ClassId} {Hb : Heap} {K : kTx} {lv : Nat → Prop} {ad : Nat → Nat} {ce0 : Nat → va_E} (hst : l.stackTraces = false) (s : Nat → Int32) (r : Nat → Nat → Int32) (hlv : kL lv s) (k : Int32) (w : Int32) (hb9 : (s 39).toInt ≤ 60) : xMet l D cI cZ cB cO cR cJ Hb K lv ad ce0 yX9_matter wsX9_matter 7 113 2 [.ref (ad 100), .int k, .int w] s r (xLk (s 39) k 9 w) (some (.int (tab9 w (r 41 (Int32.toNatClampNeg k)) (r 42 (Int32.toNatClampNeg k)) (r 43 (Int32.toNatClampNeg k)) (r 45 (Int32.toNatClampNeg k)) (r 46 (Int32.toNatClampNeg k)) (r 47 (Int32.toNatClampNeg k)) (r 48 (Int32.toNatClampNeg k)) (r 49 (Int32.toNatClampNeg k)) (r 50 (Int32.toNatClampNeg k)) (r 51 (Int32.toNatClampNeg k))))) s r s r := by
  refine vx_ofW (cc := cX9_matter) (maxL := 3) (ret := (some .int)) (by decide) rfl ?_
  intro p0 e0 s0 m0 args below meth c0 s₁ B hml hout hv
  obtain ⟨rfl, hG, hK, hE⟩ := hv
  have hx := B.exec
  have hb := B.bytes
  have hr := B.returns
  have hts := atoms_spec (ws := wsX9_matter) B.pre
  have hown : s0.vm.findClass RX9 = some m0.cls := findClass_of_methodNamed B.named
  have hlocks := B.notSynchronized
  have S : kX p0 m0 c0 cX9_matter 3 s0 _ wsX9_matter RX9 D (tyL cI cZ cB cO cR cJ) Hb K := ⟨⟨hx, hb, hml, hown, hts⟩, hK, hE⟩
  have hL : gL Hb [] := gL.nil
  have hH := hG.2.2.2.2
  have hl := lv_entry ([.ref (ad 100), .int k, .int w]) (n := 3) (Nat.le_of_ble_eq_true rfl)
  rw [lg_entry_eq]
  generalize (lg_sl ([.ref (ad 100), .int k, .int w]) ++ List.replicate (3 - (lg_sl ([.ref (ad 100), .int k, .int w])).length) Slot.unset).toArray = ls at hl ⊢
  have hl : lv_has ls 3 [(0, .ref (ad 100)), (1, .int k), (2, .int w)] := hl
  refine lv_aload_n hx hb dX9_matter_0 rfl (lv_at hl 0 rfl) ?_
  refine lv_iload_n hx hb dX9_matter_1 rfl (lv_at hl 1 rfl) ?_
  refine x_callV (n := 1) (As := [.int k]) (rest := []) (st1 := .ref (ad (4000 + Int32.toNatClampNeg k)) :: []) (k := 100) (ci := 10) S hG hL (hlv.f (by decide) (by decide)) rfl rfl (c_X9_caseNumbered hst s r hlv  k (hb9)) gX9_matter_X9_caseNumbered rfl ⟨rfl, rfl⟩ (by decide +kernel) ⟨Nat.le_of_ble_eq_true rfl, Nat.le_of_ble_eq_true rfl⟩ rfl hl.1 rfl (Nat.le_of_ble_eq_true rfl) dX9_matter_2 ⟨Nat.le_of_ble_eq_true rfl, Nat.le_of_ble_eq_true rfl⟩ hout hlocks (fun E9 h9 => ⟨by simp only [xNm, xLk] at h9 ⊢; split at h9 <;> simp_all, rfl⟩) ⟨Nat.le_of_ble_eq_true rfl, Nat.le_of_ble_eq_true rfl⟩ (rfl) (fun ht2 H locs hG hL => ?_)
  refine lv_iload_n hx hb dX9_matter_5 rfl (lv_at hl 2 rfl) ?_
  refine x_callV (n := 1) (As := [.int w]) (rest := []) (st1 := .int (tab9 w (r 41 (Int32.toNatClampNeg k)) (r 42 (Int32.toNatClampNeg k)) (r 43 (Int32.toNatClampNeg k)) (r 45 (Int32.toNatClampNeg k)) (r 46 (Int32.toNatClampNeg k)) (r 47 (Int32.toNatClampNeg k)) (r 48 (Int32.toNatClampNeg k)) (r 49 (Int32.toNatClampNeg k)) (r 50 (Int32.toNatClampNeg k)) (r 51 (Int32.toNatClampNeg k))) :: []) (k := 4000 + Int32.toNatClampNeg k) (ci := 2) S hG hL (hlv.ca (xNm_lt ht2)) (kJ_ca (xNm_9 ht2 hb9)) rfl (c_X1_told hst s r hlv (Int32.toNatClampNeg k) (xNm_lt ht2) (xNm_9 ht2 hb9) w ) gX9_matter_X1_told rfl ⟨rfl, rfl⟩ (by decide +kernel) ⟨Nat.le_of_ble_eq_true rfl, Nat.le_of_ble_eq_true rfl⟩ rfl hl.1 rfl (Nat.le_of_ble_eq_true rfl) dX9_matter_6 ⟨Nat.le_of_ble_eq_true rfl, Nat.le_of_ble_eq_true rfl⟩ hout hlocks (fun E9 h9 => ⟨by unfold xLk; rw [if_neg (xNm_n ht2)]; exact h9, rfl⟩) ⟨Nat.le_of_ble_eq_true rfl, Nat.le_of_ble_eq_true rfl⟩ (rfl) (fun ht6 H locs hG hL => ?_)
  exact x_iret S.1 hr hlocks hG hL (by unfold xLk; rw [if_neg (xNm_n ht2)]; exact ht6) (congrArg (fun z => some (Value.int z)) (by rfl)) (congr (congrArg (kJ ce0 ad K.2.2.1 cI cB cO cR) (by rfl)) (by rfl)) dX9_matter_9 (Nat.le_of_ble_eq_true rfl) (Nat.le_of_ble_eq_true rfl)

set_option maxHeartbeats 4000000 in
set_option maxRecDepth 100000 in
theorem c_X9_look {l : Launch} {D : va_G} {cI cZ cB cO cR cJ : ClassId} {Hb : Heap} {K : kTx} {lv : Nat → Prop} {ad : Nat → Nat} {ce0 : Nat → va_E} (hst : l.stackTraces = false) (s : Nat → Int32) (r : Nat → Nat → Int32) (hlv : kL lv s) (k : Int32) (w : Int32) (hb9 : (s 6).toInt ≤ 60) : xMet l D cI cZ cB cO cR cJ Hb K lv ad ce0 yX9_look wsX9_look 7 113 1 [.ref (ad 100), .int k, .int w] s r (xLk (s 6) k 4 w) (some (.int ((if w = 0 then r 9 (Int32.toNatClampNeg k) else if w = 1 then r 10 (Int32.toNatClampNeg k) else if w = 2 then r 11 (Int32.toNatClampNeg k) else if w = 3 then r 12 (Int32.toNatClampNeg k) else r 13 (Int32.toNatClampNeg k))))) s r s r := by
  refine vx_ofW (cc := cX9_look) (maxL := 3) (ret := (some .int)) (by decide) rfl ?_
  intro p0 e0 s0 m0 args below meth c0 s₁ B hml hout hv
  obtain ⟨rfl, hG, hK, hE⟩ := hv
  have hx := B.exec
  have hb := B.bytes
  have hr := B.returns
  have hts := atoms_spec (ws := wsX9_look) B.pre
  have hown : s0.vm.findClass RX9 = some m0.cls := findClass_of_methodNamed B.named
  have hlocks := B.notSynchronized
  have S : kX p0 m0 c0 cX9_look 3 s0 _ wsX9_look RX9 D (tyL cI cZ cB cO cR cJ) Hb K := ⟨⟨hx, hb, hml, hown, hts⟩, hK, hE⟩
  have hL : gL Hb [] := gL.nil
  have hH := hG.2.2.2.2
  have hl := lv_entry ([.ref (ad 100), .int k, .int w]) (n := 3) (Nat.le_of_ble_eq_true rfl)
  rw [lg_entry_eq]
  generalize (lg_sl ([.ref (ad 100), .int k, .int w]) ++ List.replicate (3 - (lg_sl ([.ref (ad 100), .int k, .int w])).length) Slot.unset).toArray = ls at hl ⊢
  have hl : lv_has ls 3 [(0, .ref (ad 100)), (1, .int k), (2, .int w)] := hl
  refine lv_iload_n hx hb dX9_look_0 rfl (lv_at hl 1 rfl) ?_
  refine lv_if_lt (tgt := 15) hx hb dX9_look_1 (by decide) (fun c1 => ?_) (fun c1 => ?_)
  ·
    exact k_throwW (cls := "java/lang/IndexOutOfBoundsException") (text := "no such hive") (i := 25) S hst hH hG hL (by decide +kernel) (hts (.classLink RX9 94 "java/lang/IndexOutOfBoundsException") (by decide +kernel)) (hts (.initialized "java/lang/IndexOutOfBoundsException") (by decide +kernel)) rfl (fun w h => List.mem_cons_of_mem _ (List.mem_append_left _ (List.mem_append_right _ h))) (by decide +kernel) (by decide +kernel) (by decide +kernel) hl.1 dX9_look_15 dX9_look_18 dX9_look_19 dX9_look_22 dX9_look_25 hout (Nat.le_of_ble_eq_true rfl) (Nat.le_of_ble_eq_true rfl) (Nat.le_of_ble_eq_true rfl) (Nat.le_of_ble_eq_true rfl) hlocks (by unfold xLk; rw [if_pos (fIs_n c1)]) (congr (congrArg (kJ ce0 ad K.2.2.1 cI cB cO cR) (by rfl)) (by rfl)) (Nat.le_of_ble_eq_true rfl) (Nat.le_of_ble_eq_true rfl)
  ·
    refine lv_iload_n hx hb dX9_look_4 rfl (lv_at hl 1 rfl) ?_
    refine lv_aload_n hx hb dX9_look_5 rfl (lv_at hl 0 rfl) ?_
    refine k_ga (C := RX9) (T := TX9) (N := 14) (ci := 10) (v := .ref (ad 105)) S hG (fun w h => List.mem_cons_of_mem _ (List.mem_append_left _ (List.mem_append_left _ (List.mem_append_left _ (List.mem_append_left _ (List.mem_append_right _ h)))))) 100 (hlv.f (by decide) (by decide)) rfl rfl 4 (by decide) rfl (hts (.fieldLink RX9 40 "SwarmLine" "hives" "Ljava/util/ArrayList;") (by decide +kernel)) rfl dX9_look_6 ?_
    refine k_callV (n := 0) (As := []) (rest := [.int k]) (st1 := .int (s 6) :: [.int k]) (k := 105) (ci := 0) S hG hL (hlv.f (by decide) (by decide)) rfl rfl (c_size0 s r hlv   ) gX9_look_Jx4a65c_size_8abf5 rfl ⟨rfl, rfl⟩ (by decide +kernel) ⟨Nat.le_of_ble_eq_true rfl, Nat.le_of_ble_eq_true rfl⟩ rfl hl.1 rfl (Nat.le_of_ble_eq_true rfl) dX9_look_9 ⟨Nat.le_of_ble_eq_true rfl, Nat.le_of_ble_eq_true rfl⟩ (rfl) (fun H locs hG hL => ?_)
    refine lv_icmp_lt (tgt := 26) hx hb dX9_look_12 (by decide) (fun c12 => ?_) (fun c12 => ?_)
    ·
      refine lv_aload_n hx hb dX9_look_26 rfl (lv_at hl 0 rfl) ?_
      refine k_ga (C := RX9) (T := TX9) (N := 14) (ci := 10) (v := .ref (ad 105)) S hG (fun w h => List.mem_cons_of_mem _ (List.mem_append_left _ (List.mem_append_left _ (List.mem_append_left _ (List.mem_append_left _ (List.mem_append_right _ h)))))) 100 (hlv.f (by decide) (by decide)) rfl rfl 4 (by decide) rfl (hts (.fieldLink RX9 40 "SwarmLine" "hives" "Ljava/util/ArrayList;") (by decide +kernel)) rfl dX9_look_27 ?_
      refine lv_iload_n hx hb dX9_look_30 rfl (lv_at hl 1 rfl) ?_
      refine k_callV (n := 1) (As := [.int k]) (rest := []) (st1 := .ref (ad (1000 + Int32.toNatClampNeg k)) :: []) (k := 105) (ci := 0) S hG hL (hlv.f (by decide) (by decide)) rfl rfl (c_get0 s r hlv  k ((fIs_t c1 c12).2.1) ((fIs_t c1 c12).2.2) (hb9)) gX9_look_Jx4a65c_get_915e3 rfl ⟨rfl, rfl⟩ (by decide +kernel) ⟨Nat.le_of_ble_eq_true rfl, Nat.le_of_ble_eq_true rfl⟩ rfl hl.1 rfl (Nat.le_of_ble_eq_true rfl) dX9_look_31 ⟨Nat.le_of_ble_eq_true rfl, Nat.le_of_ble_eq_true rfl⟩ (rfl) (fun H locs hG hL => ?_)
      refine k_cast (C := RX3) (T := TX3) (N := 7) (ci := 4) S hG (1000 + Int32.toNatClampNeg k) (hlv.hv (ix_lt (fIs_t c1 c12).2.1 (fIs_t c1 c12).2.2)) (kJ_hv (ix_le (fIs_t c1 c12).2.1 (by have := (fIs_t c1 c12).2.2; omega))) rfl (hts (.classLink RX9 151 "SwarmLine$Hive") (by decide +kernel)) dX9_look_34 ?_
      refine lv_iload_n hx hb dX9_look_37 rfl (lv_at hl 2 rfl) ?_
      refine x_callV (n := 1) (As := [.int w]) (rest := []) (st1 := .int (if w = 0 then r 9 (Int32.toNatClampNeg k) else if w = 1 then r 10 (Int32.toNatClampNeg k) else if w = 2 then r 11 (Int32.toNatClampNeg k) else if w = 3 then r 12 (Int32.toNatClampNeg k) else r 13 (Int32.toNatClampNeg k)) :: []) (k := 1000 + Int32.toNatClampNeg k) (ci := 4) S hG hL (hlv.hv (ix_lt (fIs_t c1 c12).2.1 (fIs_t c1 c12).2.2)) (kJ_hv (ix_le (fIs_t c1 c12).2.1 (by have := (fIs_t c1 c12).2.2; omega))) rfl (c_X3_told hst s r hlv (Int32.toNatClampNeg k) (ix_lt (fIs_t c1 c12).2.1 (fIs_t c1 c12).2.2) (ix_le (fIs_t c1 c12).2.1 (by have := (fIs_t c1 c12).2.2; omega)) w ) gX9_look_X3_told rfl ⟨rfl, rfl⟩ (by decide +kernel) ⟨Nat.le_of_ble_eq_true rfl, Nat.le_of_ble_eq_true rfl⟩ rfl hl.1 rfl (Nat.le_of_ble_eq_true rfl) dX9_look_38 ⟨Nat.le_of_ble_eq_true rfl, Nat.le_of_ble_eq_true rfl⟩ hout hlocks (fun E9 h9 => ⟨by unfold xLk; rw [if_neg (fIs_t c1 c12).1]; exact h9, rfl⟩) ⟨Nat.le_of_ble_eq_true rfl, Nat.le_of_ble_eq_true rfl⟩ (rfl) (fun ht38 H locs hG hL => ?_)
      exact x_iret S.1 hr hlocks hG hL (by unfold xLk; rw [if_neg (fIs_t c1 c12).1]; exact ht38) (congrArg (fun z => some (Value.int z)) (by rfl)) (congr (congrArg (kJ ce0 ad K.2.2.1 cI cB cO cR) (by rfl)) (by rfl)) dX9_look_41 (Nat.le_of_ble_eq_true rfl) (Nat.le_of_ble_eq_true rfl)
    ·
      exact k_throwW (cls := "java/lang/IndexOutOfBoundsException") (text := "no such hive") (i := 25) S hst hH hG hL (by decide +kernel) (hts (.classLink RX9 94 "java/lang/IndexOutOfBoundsException") (by decide +kernel)) (hts (.initialized "java/lang/IndexOutOfBoundsException") (by decide +kernel)) rfl (fun w h => List.mem_cons_of_mem _ (List.mem_append_left _ (List.mem_append_right _ h))) (by decide +kernel) (by decide +kernel) (by decide +kernel) hl.1 dX9_look_15 dX9_look_18 dX9_look_19 dX9_look_22 dX9_look_25 hout (Nat.le_of_ble_eq_true rfl) (Nat.le_of_ble_eq_true rfl) (Nat.le_of_ble_eq_true rfl) (Nat.le_of_ble_eq_true rfl) hlocks (by unfold xLk; rw [if_pos (fIs_f c12)]) (congr (congrArg (kJ ce0 ad K.2.2.1 cI cB cO cR) (by rfl)) (by rfl)) (Nat.le_of_ble_eq_true rfl) (Nat.le_of_ble_eq_true rfl)

set_option maxHeartbeats 4000000 in
set_option maxRecDepth 100000 in
theorem c_X9_boxes {l : Launch} {D : va_G} {cI cZ cB cO cR cJ : ClassId} {Hb : Heap} {K : kTx} {lv : Nat → Prop} {ad : Nat → Nat} {ce0 : Nat → va_E} (hst : l.stackTraces = false) (s : Nat → Int32) (r : Nat → Nat → Int32) (hlv : kL lv s) (k : Int32) (n : Int32) (hb9 : (s 26).toInt ≤ 60) : xMet l D cI cZ cB cO cR cJ Hb K lv ad ce0 yX9_boxes wsX9_boxes 7 113 2 [.ref (ad 100), .int k, .int n] s r (xBo (s 26) k n) (some (.int (bBo k n r))) s (up2 r 29 (Int32.toNatClampNeg k) (bBo k n r)) s r := by
  refine vx_ofW (cc := cX9_boxes) (maxL := 4) (ret := (some .int)) (by decide) rfl ?_
  intro p0 e0 s0 m0 args below meth c0 s₁ B hml hout hv
  obtain ⟨rfl, hG, hK, hE⟩ := hv
  have hx := B.exec
  have hb := B.bytes
  have hr := B.returns
  have hts := atoms_spec (ws := wsX9_boxes) B.pre
  have hown : s0.vm.findClass RX9 = some m0.cls := findClass_of_methodNamed B.named
  have hlocks := B.notSynchronized
  have S : kX p0 m0 c0 cX9_boxes 4 s0 _ wsX9_boxes RX9 D (tyL cI cZ cB cO cR cJ) Hb K := ⟨⟨hx, hb, hml, hown, hts⟩, hK, hE⟩
  have hL : gL Hb [] := gL.nil
  have hH := hG.2.2.2.2
  have hl := lv_entry ([.ref (ad 100), .int k, .int n]) (n := 4) (Nat.le_of_ble_eq_true rfl)
  rw [lg_entry_eq]
  generalize (lg_sl ([.ref (ad 100), .int k, .int n]) ++ List.replicate (4 - (lg_sl ([.ref (ad 100), .int k, .int n])).length) Slot.unset).toArray = ls at hl ⊢
  have hl : lv_has ls 4 [(0, .ref (ad 100)), (1, .int k), (2, .int n)] := hl
  refine lv_aload_n hx hb dX9_boxes_0 rfl (lv_at hl 0 rfl) ?_
  refine lv_iload_n hx hb dX9_boxes_1 rfl (lv_at hl 1 rfl) ?_
  refine x_callV (n := 1) (As := [.int k]) (rest := []) (st1 := .ref (ad (3000 + Int32.toNatClampNeg k)) :: []) (k := 100) (ci := 10) S hG hL (hlv.f (by decide) (by decide)) rfl rfl (c_X9_keeperNumbered hst s r hlv  k (hb9)) gX9_boxes_X9_keeperNumbered rfl ⟨rfl, rfl⟩ (by decide +kernel) ⟨Nat.le_of_ble_eq_true rfl, Nat.le_of_ble_eq_true rfl⟩ rfl hl.1 rfl (Nat.le_of_ble_eq_true rfl) dX9_boxes_2 ⟨Nat.le_of_ble_eq_true rfl, Nat.le_of_ble_eq_true rfl⟩ hout hlocks (fun E9 h9 => ⟨by simp only [xNm, xBo] at h9 ⊢; split at h9 <;> simp_all, rfl⟩) ⟨Nat.le_of_ble_eq_true rfl, Nat.le_of_ble_eq_true rfl⟩ (rfl) (fun ht2 H locs hG hL => ?_)
  refine lv_astore_n (lv' := [(3, .ref (ad (3000 + Int32.toNatClampNeg k))), (0, .ref (ad 100)), (1, .int k), (2, .int n)]) hx hb dX9_boxes_5 rfl hl (by decide) rfl (fun ls hl => ?_)
  refine lv_iload_n hx hb dX9_boxes_6 rfl (lv_at hl 3 rfl) ?_
  refine lv_iconst (v := 0) hx hb dX9_boxes_7 (by decide) ?_
  refine lv_bipush (v := 20) hx hb dX9_boxes_8 (by decide) ?_
  refine m_callP (n := 3) (As := [.int n, .int 0, .int 20]) (rest := []) (st1 := .int (fIn n 0 20) :: []) S.1 (c_X9_isWithin n 0 20) gX9_boxes_X9_isWithin rfl (by decide +kernel) ⟨Nat.le_of_ble_eq_true rfl, Nat.le_of_ble_eq_true rfl⟩ rfl hl.1 rfl (Nat.le_of_ble_eq_true rfl) dX9_boxes_10 ⟨Nat.le_of_ble_eq_true rfl, Nat.le_of_ble_eq_true rfl⟩ (rfl) ?_
  refine lv_if_ne (tgt := 26) hx hb dX9_boxes_13 (by decide) (fun c13 => ?_) (fun c13 => ?_)
  ·
    refine lv_aload_n hx hb dX9_boxes_26 rfl (lv_at hl 0 rfl) ?_
    refine lv_aload_n hx hb dX9_boxes_27 rfl (lv_at hl 0 rfl) ?_
    refine k_giN (C := RX4) (T := TX4) (N := 12) (ci := 5) (v := r 29 (Int32.toNatClampNeg k)) S hG (fun w h => List.mem_cons_of_mem _ (List.mem_append_left _ (List.mem_append_left _ (List.mem_append_left _ (List.mem_append_left _ (List.mem_append_right _ h)))))) (3000 + Int32.toNatClampNeg k) (hlv.kp (xNm_lt ht2)) (kJ_kp (xNm_9 ht2 hb9)) rfl 6 (by decide) rfl (by decide +kernel) rfl (rfl) dX9_boxes_28 ?_
    refine lv_iload_n hx hb dX9_boxes_31 rfl (lv_at hl 3 rfl) ?_
    refine lv_iadd hx hb dX9_boxes_32 ?_
    refine lv_bipush (v := 20) hx hb dX9_boxes_33 (by decide) ?_
    refine va_mmin hx hb (hml.trans hl.1.symm) hown (hts (.methodLink RX9 181 Lib.Math.min.name) (by decide +kernel)) (hts (.static Lib.Math.min.name) (by decide +kernel)) (hts (.initialized "java/lang/Math") (by decide +kernel)) (hts (.code Lib.Math.min.name Lib.Math.min.code 2 (some .int)) (by decide +kernel)) (Nat.le_of_ble_eq_true rfl) (Nat.le_of_ble_eq_true rfl) (Nat.le_of_ble_eq_true rfl) (Nat.le_of_ble_eq_true rfl) dX9_boxes_35 ?_
    refine lv_topi (fun z9 e9 => ?_)
    have e9 : z9 = bBo k n r := e9.trans (min_sw _ _)
    subst e9
    refine k_piN (C := RX4) (T := TX4) (N := 12) (ci := 5) (ty := .int) S hG hL (fun w h => List.mem_cons_of_mem _ (List.mem_append_left _ (List.mem_append_left _ (List.mem_append_left _ (List.mem_append_left _ (List.mem_append_right _ h)))))) tyX4 tyX4_ok nmX4 (3000 + Int32.toNatClampNeg k) (hlv.kp (xNm_lt ht2)) (kJ_kp (xNm_9 ht2 hb9)) rfl 6 (by decide) rfl (by decide +kernel) rfl (by decide +kernel) rfl rfl (Nat.le_of_ble_eq_true rfl) (kw_kp_boxes (xNm_9 ht2 hb9) _) dX9_boxes_38 (fun H locs hG hL => ?_)
    refine lv_aload_n hx hb dX9_boxes_41 rfl (lv_at hl 0 rfl) ?_
    refine k_giN (C := RX4) (T := TX4) (N := 12) (ci := 5) (v := (bBo k n r)) S hG (fun w h => List.mem_cons_of_mem _ (List.mem_append_left _ (List.mem_append_left _ (List.mem_append_left _ (List.mem_append_left _ (List.mem_append_right _ h)))))) (3000 + Int32.toNatClampNeg k) (hlv.kp (xNm_lt ht2)) (kJ_kp (xNm_9 ht2 hb9)) rfl 6 (by decide) rfl (by decide +kernel) rfl (up2_ss ..) dX9_boxes_42 ?_
    exact x_iret S.1 hr hlocks hG hL (by simp only [xBo, eq_false (xNm_n ht2), eq_false c13, if_true, if_false]) (congrArg (fun z => some (Value.int z)) (by rfl)) (congr (congrArg (kJ ce0 ad K.2.2.1 cI cB cO cR) (by rfl)) (by rfl)) dX9_boxes_45 (Nat.le_of_ble_eq_true rfl) (Nat.le_of_ble_eq_true rfl)
  ·
    exact k_throw (cls := "java/lang/IllegalArgumentException") (text := "no such number of boxes") (i := 9) S hst hH hG hL (by decide +kernel) (hts (.classLink RX9 108 "java/lang/IllegalArgumentException") (by decide +kernel)) (hts (.initialized "java/lang/IllegalArgumentException") (by decide +kernel)) rfl (fun w h => List.mem_cons_of_mem _ (List.mem_append_left _ (List.mem_append_right _ h))) (by decide +kernel) (by decide +kernel) (by decide +kernel) hl.1 dX9_boxes_16 dX9_boxes_19 dX9_boxes_20 dX9_boxes_22 dX9_boxes_25 hout (Nat.le_of_ble_eq_true rfl) (Nat.le_of_ble_eq_true rfl) (Nat.le_of_ble_eq_true rfl) (Nat.le_of_ble_eq_true rfl) hlocks (by simp only [xBo, eq_false (xNm_n ht2), eq_true c13, if_true, if_false]) (congr (congrArg (kJ ce0 ad K.2.2.1 cI cB cO cR) (by rfl)) (by rfl)) (Nat.le_of_ble_eq_true rfl) (Nat.le_of_ble_eq_true rfl)

set_option maxHeartbeats 4000000 in
set_option maxRecDepth 100000 in
theorem c_X9_weather {l : Launch} {D : va_G} {cI cZ cB cO cR cJ : ClassId} {Hb : Heap} {K : kTx} {lv : Nat → Prop} {ad : Nat → Nat} {ce0 : Nat → va_E} (hst : l.stackTraces = false) (s : Nat → Int32) (r : Nat → Nat → Int32) (hlv : kL lv s) (d : Int32) (w : Int32) (b : Int32)  : xMet l D cI cZ cB cO cR cJ Hb K lv ad ce0 yX9_weather wsX9_weather 6 92 1 [.ref (ad 100), .int d, .int w, .int b] s r (xWe d w b s) none s (up2 (up2 r 2 (Int32.toNatClampNeg d) w) 3 (Int32.toNatClampNeg d) b) s r := by
  refine vx_ofW (cc := cX9_weather) (maxL := 4) (ret := none) (by decide) rfl ?_
  intro p0 e0 s0 m0 args below meth c0 s₁ B hml hout hv
  obtain ⟨rfl, hG, hK, hE⟩ := hv
  have hx := B.exec
  have hb := B.bytes
  have hr := B.returns
  have hts := atoms_spec (ws := wsX9_weather) B.pre
  have hown : s0.vm.findClass RX9 = some m0.cls := findClass_of_methodNamed B.named
  have hlocks := B.notSynchronized
  have S : kX p0 m0 c0 cX9_weather 4 s0 _ wsX9_weather RX9 D (tyL cI cZ cB cO cR cJ) Hb K := ⟨⟨hx, hb, hml, hown, hts⟩, hK, hE⟩
  have hL : gL Hb [] := gL.nil
  have hH := hG.2.2.2.2
  have hl := lv_entry ([.ref (ad 100), .int d, .int w, .int b]) (n := 4) (Nat.le_of_ble_eq_true rfl)
  rw [lg_entry_eq]
  generalize (lg_sl ([.ref (ad 100), .int d, .int w, .int b]) ++ List.replicate (4 - (lg_sl ([.ref (ad 100), .int d, .int w, .int b])).length) Slot.unset).toArray = ls at hl ⊢
  have hl : lv_has ls 4 [(0, .ref (ad 100)), (1, .int d), (2, .int w), (3, .int b)] := hl
  refine lv_iload_n hx hb dX9_weather_0 rfl (lv_at hl 1 rfl) ?_
  refine k_callS (n := 1) (As := [.int d]) (rest := []) (st1 := .int (fIn d 0 30) :: []) S hG hL (c_X5_isDay s r hlv  d ) gX9_weather_X5_isDay rfl ⟨rfl, rfl⟩ (by decide +kernel) ⟨Nat.le_of_ble_eq_true rfl, Nat.le_of_ble_eq_true rfl⟩ rfl hl.1 rfl (Nat.le_of_ble_eq_true rfl) dX9_weather_1 ⟨Nat.le_of_ble_eq_true rfl, Nat.le_of_ble_eq_true rfl⟩ (rfl) (fun H locs hG hL => ?_)
  refine lv_if_ne (tgt := 17) hx hb dX9_weather_4 (by decide) (fun c4 => ?_) (fun c4 => ?_)
  ·
    refine lv_iload_n hx hb dX9_weather_17 rfl (lv_at hl 2 rfl) ?_
    refine k_callS (n := 1) (As := [.int w]) (rest := []) (st1 := .int (fIn w (-20) 40) :: []) S hG hL (c_X5_isWarmth s r hlv  w ) gX9_weather_X5_isWarmth rfl ⟨rfl, rfl⟩ (by decide +kernel) ⟨Nat.le_of_ble_eq_true rfl, Nat.le_of_ble_eq_true rfl⟩ rfl hl.1 rfl (Nat.le_of_ble_eq_true rfl) dX9_weather_18 ⟨Nat.le_of_ble_eq_true rfl, Nat.le_of_ble_eq_true rfl⟩ (rfl) (fun H locs hG hL => ?_)
    refine lv_if_eq (tgt := 34) hx hb dX9_weather_21 (by decide) (fun c21 => ?_) (fun c21 => ?_)
    ·
      exact k_throw (cls := "java/lang/IllegalArgumentException") (text := "no warmth or no bloom") (i := 1) S hst hH hG hL (by decide +kernel) (hts (.classLink RX9 108 "java/lang/IllegalArgumentException") (by decide +kernel)) (hts (.initialized "java/lang/IllegalArgumentException") (by decide +kernel)) rfl (fun w h => List.mem_cons_of_mem _ (List.mem_append_left _ (List.mem_append_right _ h))) (by decide +kernel) (by decide +kernel) (by decide +kernel) hl.1 dX9_weather_34 dX9_weather_37 dX9_weather_38 dX9_weather_40 dX9_weather_43 hout (Nat.le_of_ble_eq_true rfl) (Nat.le_of_ble_eq_true rfl) (Nat.le_of_ble_eq_true rfl) (Nat.le_of_ble_eq_true rfl) hlocks (by simp only [xWe, eq_false c4, eq_true c21, if_true, if_false]) (congr (congrArg (kJ ce0 ad K.2.2.1 cI cB cO cR) (by rfl)) (by rfl)) (Nat.le_of_ble_eq_true rfl) (Nat.le_of_ble_eq_true rfl)
    ·
      refine lv_iload_n hx hb dX9_weather_24 rfl (lv_at hl 3 rfl) ?_
      refine lv_iconst (v := 0) hx hb dX9_weather_25 (by decide) ?_
      refine lv_bipush (v := 100) hx hb dX9_weather_26 (by decide) ?_
      refine m_callP (n := 3) (As := [.int b, .int 0, .int 100]) (rest := []) (st1 := .int (fIn b 0 100) :: []) S.1 (c_X9_isWithin b 0 100) gX9_weather_X9_isWithin rfl (by decide +kernel) ⟨Nat.le_of_ble_eq_true rfl, Nat.le_of_ble_eq_true rfl⟩ rfl hl.1 rfl (Nat.le_of_ble_eq_true rfl) dX9_weather_28 ⟨Nat.le_of_ble_eq_true rfl, Nat.le_of_ble_eq_true rfl⟩ (rfl) ?_
      refine lv_if_ne (tgt := 44) hx hb dX9_weather_31 (by decide) (fun c31 => ?_) (fun c31 => ?_)
      ·
        refine lv_iload_n hx hb dX9_weather_44 rfl (lv_at hl 1 rfl) ?_
        refine lv_aload_n hx hb dX9_weather_45 rfl (lv_at hl 0 rfl) ?_
        refine k_callV (n := 0) (As := []) (rest := [.int d]) (st1 := .int (s 1 / 24) :: [.int d]) (k := 100) (ci := 10) S hG hL (hlv.f (by decide) (by decide)) rfl rfl (c_X9_today s r hlv   ) gX9_weather_X9_today rfl ⟨rfl, rfl⟩ (by decide +kernel) ⟨Nat.le_of_ble_eq_true rfl, Nat.le_of_ble_eq_true rfl⟩ rfl hl.1 rfl (Nat.le_of_ble_eq_true rfl) dX9_weather_46 ⟨Nat.le_of_ble_eq_true rfl, Nat.le_of_ble_eq_true rfl⟩ (rfl) (fun H locs hG hL => ?_)
        refine lv_icmp_gt (tgt := 69) hx hb dX9_weather_49 (by decide) (fun c49 => ?_) (fun c49 => ?_)
        ·
          refine lv_aload_n hx hb dX9_weather_69 rfl (lv_at hl 0 rfl) ?_
          refine k_ga (C := RX9) (T := TX9) (N := 14) (ci := 10) (v := .ref (ad 103)) S hG (fun w h => List.mem_cons_of_mem _ (List.mem_append_left _ (List.mem_append_left _ (List.mem_append_left _ (List.mem_append_left _ (List.mem_append_right _ h)))))) 100 (hlv.f (by decide) (by decide)) rfl rfl 2 (by decide) rfl (hts (.fieldLink RX9 26 "SwarmLine" "sky" "LSwarmLine$Sky;") (by decide +kernel)) rfl dX9_weather_70 ?_
          refine k_gaN (C := RX5) (T := TX5) (N := 4) (ci := 6) (v := .ref (ad 113)) S hG (fun w h => List.mem_cons_of_mem _ (List.mem_append_left _ (List.mem_append_left _ (List.mem_append_left _ (List.mem_append_right _ h))))) 103 (hlv.f (by decide) (by decide)) rfl rfl 0 (by decide) rfl (by decide +kernel) rfl dX9_weather_73 ?_
          refine lv_iload_n hx hb dX9_weather_76 rfl (lv_at hl 1 rfl) ?_
          refine lv_iload_n hx hb dX9_weather_77 rfl (lv_at hl 2 rfl) ?_
          refine k_ist (j := Int32.toNatClampNeg d) S hG hL 113 (hlv.f (by decide) (by decide)) rfl rfl (show vp_in d 31 from fIn_in c4 (by decide)) (kw_113 _ _) dX9_weather_78 (fun H locs hG hL => ?_)
          refine lv_aload_n hx hb dX9_weather_79 rfl (lv_at hl 0 rfl) ?_
          refine k_ga (C := RX9) (T := TX9) (N := 14) (ci := 10) (v := .ref (ad 103)) S hG (fun w h => List.mem_cons_of_mem _ (List.mem_append_left _ (List.mem_append_left _ (List.mem_append_left _ (List.mem_append_left _ (List.mem_append_right _ h)))))) 100 (hlv.f (by decide) (by decide)) rfl rfl 2 (by decide) rfl (hts (.fieldLink RX9 26 "SwarmLine" "sky" "LSwarmLine$Sky;") (by decide +kernel)) rfl dX9_weather_80 ?_
          refine k_gaN (C := RX5) (T := TX5) (N := 4) (ci := 6) (v := .ref (ad 114)) S hG (fun w h => List.mem_cons_of_mem _ (List.mem_append_left _ (List.mem_append_left _ (List.mem_append_left _ (List.mem_append_right _ h))))) 103 (hlv.f (by decide) (by decide)) rfl rfl 1 (by decide) rfl (by decide +kernel) rfl dX9_weather_83 ?_
          refine lv_iload_n hx hb dX9_weather_86 rfl (lv_at hl 1 rfl) ?_
          refine lv_iload_n hx hb dX9_weather_87 rfl (lv_at hl 3 rfl) ?_
          refine k_ist (j := Int32.toNatClampNeg d) S hG hL 114 (hlv.f (by decide) (by decide)) rfl rfl (show vp_in d 31 from fIn_in c4 (by decide)) (kw_114 _ _) dX9_weather_88 (fun H locs hG hL => ?_)
          exact x_vret S.1 hr hlocks hG hL (by simp only [xWe, eq_false c4, eq_false c21, eq_false c31, eq_true c49, if_true, if_false]) rfl (congr (congrArg (kJ ce0 ad K.2.2.1 cI cB cO cR) (by rfl)) (by rfl)) dX9_weather_89 (Nat.le_of_ble_eq_true rfl) (Nat.le_of_ble_eq_true rfl)
        ·
          refine lv_aload_n hx hb dX9_weather_52 rfl (lv_at hl 0 rfl) ?_
          refine k_gi (C := RX9) (T := TX9) (N := 14) (ci := 10) (v := s 1) S hG (fun w h => List.mem_cons_of_mem _ (List.mem_append_left _ (List.mem_append_left _ (List.mem_append_left _ (List.mem_append_left _ (List.mem_append_right _ h)))))) 100 (hlv.f (by decide) (by decide)) rfl rfl 12 (by decide) rfl (hts (.fieldLink RX9 71 "SwarmLine" "now" "I") (by decide +kernel)) rfl (rfl) dX9_weather_53 ?_
          refine lv_if_le (tgt := 69) hx hb dX9_weather_56 (by decide) (fun c56 => ?_) (fun c56 => ?_)
          ·
            refine lv_aload_n hx hb dX9_weather_69 rfl (lv_at hl 0 rfl) ?_
            refine k_ga (C := RX9) (T := TX9) (N := 14) (ci := 10) (v := .ref (ad 103)) S hG (fun w h => List.mem_cons_of_mem _ (List.mem_append_left _ (List.mem_append_left _ (List.mem_append_left _ (List.mem_append_left _ (List.mem_append_right _ h)))))) 100 (hlv.f (by decide) (by decide)) rfl rfl 2 (by decide) rfl (hts (.fieldLink RX9 26 "SwarmLine" "sky" "LSwarmLine$Sky;") (by decide +kernel)) rfl dX9_weather_70 ?_
            refine k_gaN (C := RX5) (T := TX5) (N := 4) (ci := 6) (v := .ref (ad 113)) S hG (fun w h => List.mem_cons_of_mem _ (List.mem_append_left _ (List.mem_append_left _ (List.mem_append_left _ (List.mem_append_right _ h))))) 103 (hlv.f (by decide) (by decide)) rfl rfl 0 (by decide) rfl (by decide +kernel) rfl dX9_weather_73 ?_
            refine lv_iload_n hx hb dX9_weather_76 rfl (lv_at hl 1 rfl) ?_
            refine lv_iload_n hx hb dX9_weather_77 rfl (lv_at hl 2 rfl) ?_
            refine k_ist (j := Int32.toNatClampNeg d) S hG hL 113 (hlv.f (by decide) (by decide)) rfl rfl (show vp_in d 31 from fIn_in c4 (by decide)) (kw_113 _ _) dX9_weather_78 (fun H locs hG hL => ?_)
            refine lv_aload_n hx hb dX9_weather_79 rfl (lv_at hl 0 rfl) ?_
            refine k_ga (C := RX9) (T := TX9) (N := 14) (ci := 10) (v := .ref (ad 103)) S hG (fun w h => List.mem_cons_of_mem _ (List.mem_append_left _ (List.mem_append_left _ (List.mem_append_left _ (List.mem_append_left _ (List.mem_append_right _ h)))))) 100 (hlv.f (by decide) (by decide)) rfl rfl 2 (by decide) rfl (hts (.fieldLink RX9 26 "SwarmLine" "sky" "LSwarmLine$Sky;") (by decide +kernel)) rfl dX9_weather_80 ?_
            refine k_gaN (C := RX5) (T := TX5) (N := 4) (ci := 6) (v := .ref (ad 114)) S hG (fun w h => List.mem_cons_of_mem _ (List.mem_append_left _ (List.mem_append_left _ (List.mem_append_left _ (List.mem_append_right _ h))))) 103 (hlv.f (by decide) (by decide)) rfl rfl 1 (by decide) rfl (by decide +kernel) rfl dX9_weather_83 ?_
            refine lv_iload_n hx hb dX9_weather_86 rfl (lv_at hl 1 rfl) ?_
            refine lv_iload_n hx hb dX9_weather_87 rfl (lv_at hl 3 rfl) ?_
            refine k_ist (j := Int32.toNatClampNeg d) S hG hL 114 (hlv.f (by decide) (by decide)) rfl rfl (show vp_in d 31 from fIn_in c4 (by decide)) (kw_114 _ _) dX9_weather_88 (fun H locs hG hL => ?_)
            exact x_vret S.1 hr hlocks hG hL (by simp only [xWe, eq_false c4, eq_false c21, eq_false c31, eq_false c49, eq_true c56, if_true, if_false]) rfl (congr (congrArg (kJ ce0 ad K.2.2.1 cI cB cO cR) (by rfl)) (by rfl)) dX9_weather_89 (Nat.le_of_ble_eq_true rfl) (Nat.le_of_ble_eq_true rfl)
          ·
            exact k_throw (cls := "java/lang/IllegalStateException") (text := "the day has begun") (i := 2) S hst hH hG hL (by decide +kernel) (hts (.classLink RX9 117 "java/lang/IllegalStateException") (by decide +kernel)) (hts (.initialized "java/lang/IllegalStateException") (by decide +kernel)) rfl (fun w h => List.mem_cons_of_mem _ (List.mem_append_right _ h)) (by decide +kernel) (by decide +kernel) (by decide +kernel) hl.1 dX9_weather_59 dX9_weather_62 dX9_weather_63 dX9_weather_65 dX9_weather_68 hout (Nat.le_of_ble_eq_true rfl) (Nat.le_of_ble_eq_true rfl) (Nat.le_of_ble_eq_true rfl) (Nat.le_of_ble_eq_true rfl) hlocks (by simp only [xWe, eq_false c4, eq_false c21, eq_false c31, eq_false c49, eq_false c56, if_true, if_false]) (congr (congrArg (kJ ce0 ad K.2.2.1 cI cB cO cR) (by rfl)) (by rfl)) (Nat.le_of_ble_eq_true rfl) (Nat.le_of_ble_eq_true rfl)
      ·
        exact k_throw (cls := "java/lang/IllegalArgumentException") (text := "no warmth or no bloom") (i := 1) S hst hH hG hL (by decide +kernel) (hts (.classLink RX9 108 "java/lang/IllegalArgumentException") (by decide +kernel)) (hts (.initialized "java/lang/IllegalArgumentException") (by decide +kernel)) rfl (fun w h => List.mem_cons_of_mem _ (List.mem_append_left _ (List.mem_append_right _ h))) (by decide +kernel) (by decide +kernel) (by decide +kernel) hl.1 dX9_weather_34 dX9_weather_37 dX9_weather_38 dX9_weather_40 dX9_weather_43 hout (Nat.le_of_ble_eq_true rfl) (Nat.le_of_ble_eq_true rfl) (Nat.le_of_ble_eq_true rfl) (Nat.le_of_ble_eq_true rfl) hlocks (by simp only [xWe, eq_false c4, eq_false c21, eq_true c31, if_true, if_false]) (congr (congrArg (kJ ce0 ad K.2.2.1 cI cB cO cR) (by rfl)) (by rfl)) (Nat.le_of_ble_eq_true rfl) (Nat.le_of_ble_eq_true rfl)
  ·
    exact k_throw (cls := "java/lang/IndexOutOfBoundsException") (text := "no such day") (i := 0) S hst hH hG hL (by decide +kernel) (hts (.classLink RX9 94 "java/lang/IndexOutOfBoundsException") (by decide +kernel)) (hts (.initialized "java/lang/IndexOutOfBoundsException") (by decide +kernel)) rfl (fun w h => List.mem_cons_of_mem _ (List.mem_append_left _ (List.mem_append_left _ (List.mem_append_right _ h)))) (by decide +kernel) (by decide +kernel) (by decide +kernel) hl.1 dX9_weather_7 dX9_weather_10 dX9_weather_11 dX9_weather_13 dX9_weather_16 hout (Nat.le_of_ble_eq_true rfl) (Nat.le_of_ble_eq_true rfl) (Nat.le_of_ble_eq_true rfl) (Nat.le_of_ble_eq_true rfl) hlocks (by simp only [xWe, eq_true c4, if_true, if_false]) (congr (congrArg (kJ ce0 ad K.2.2.1 cI cB cO cR) (by rfl)) (by rfl)) (Nat.le_of_ble_eq_true rfl) (Nat.le_of_ble_eq_true rfl)

set_option maxHeartbeats 4000000 in
set_option maxRecDepth 100000 in
theorem c_X9_foretell {l : Launch} {D : va_G} {cI cZ cB cO cR cJ : ClassId} {Hb : Heap} {K : kTx} {lv : Nat → Prop} {ad : Nat → Nat} {ce0 : Nat → va_E} (hst : l.stackTraces = false) (s : Nat → Int32) (r : Nat → Nat → Int32) (hlv : kL lv s) (d : Int32) (a : Int32) (b : Int32)  : xMet l D cI cZ cB cO cR cJ Hb K lv ad ce0 yX9_foretell wsX9_foretell 6 92 1 [.ref (ad 100), .int d, .int a, .int b] s r (xFo d a b) none s (up2 (up2 r 4 (Int32.toNatClampNeg d) a) 5 (Int32.toNatClampNeg d) b) s r := by
  refine vx_ofW (cc := cX9_foretell) (maxL := 4) (ret := none) (by decide) rfl ?_
  intro p0 e0 s0 m0 args below meth c0 s₁ B hml hout hv
  obtain ⟨rfl, hG, hK, hE⟩ := hv
  have hx := B.exec
  have hb := B.bytes
  have hr := B.returns
  have hts := atoms_spec (ws := wsX9_foretell) B.pre
  have hown : s0.vm.findClass RX9 = some m0.cls := findClass_of_methodNamed B.named
  have hlocks := B.notSynchronized
  have S : kX p0 m0 c0 cX9_foretell 4 s0 _ wsX9_foretell RX9 D (tyL cI cZ cB cO cR cJ) Hb K := ⟨⟨hx, hb, hml, hown, hts⟩, hK, hE⟩
  have hL : gL Hb [] := gL.nil
  have hH := hG.2.2.2.2
  have hl := lv_entry ([.ref (ad 100), .int d, .int a, .int b]) (n := 4) (Nat.le_of_ble_eq_true rfl)
  rw [lg_entry_eq]
  generalize (lg_sl ([.ref (ad 100), .int d, .int a, .int b]) ++ List.replicate (4 - (lg_sl ([.ref (ad 100), .int d, .int a, .int b])).length) Slot.unset).toArray = ls at hl ⊢
  have hl : lv_has ls 4 [(0, .ref (ad 100)), (1, .int d), (2, .int a), (3, .int b)] := hl
  refine lv_iload_n hx hb dX9_foretell_0 rfl (lv_at hl 1 rfl) ?_
  refine k_callS (n := 1) (As := [.int d]) (rest := []) (st1 := .int (fIn d 0 30) :: []) S hG hL (c_X5_isDay s r hlv  d ) gX9_foretell_X5_isDay rfl ⟨rfl, rfl⟩ (by decide +kernel) ⟨Nat.le_of_ble_eq_true rfl, Nat.le_of_ble_eq_true rfl⟩ rfl hl.1 rfl (Nat.le_of_ble_eq_true rfl) dX9_foretell_1 ⟨Nat.le_of_ble_eq_true rfl, Nat.le_of_ble_eq_true rfl⟩ (rfl) (fun H locs hG hL => ?_)
  refine lv_if_ne (tgt := 17) hx hb dX9_foretell_4 (by decide) (fun c4 => ?_) (fun c4 => ?_)
  ·
    refine lv_iload_n hx hb dX9_foretell_17 rfl (lv_at hl 2 rfl) ?_
    refine k_callS (n := 1) (As := [.int a]) (rest := []) (st1 := .int (fIn a (-20) 40) :: []) S hG hL (c_X5_isWarmth s r hlv  a ) gX9_foretell_X5_isWarmth rfl ⟨rfl, rfl⟩ (by decide +kernel) ⟨Nat.le_of_ble_eq_true rfl, Nat.le_of_ble_eq_true rfl⟩ rfl hl.1 rfl (Nat.le_of_ble_eq_true rfl) dX9_foretell_18 ⟨Nat.le_of_ble_eq_true rfl, Nat.le_of_ble_eq_true rfl⟩ (rfl) (fun H locs hG hL => ?_)
    refine lv_if_eq (tgt := 36) hx hb dX9_foretell_21 (by decide) (fun c21 => ?_) (fun c21 => ?_)
    ·
      exact k_throw (cls := "java/lang/IllegalArgumentException") (text := "no bounds of a warmth") (i := 3) S hst hH hG hL (by decide +kernel) (hts (.classLink RX9 108 "java/lang/IllegalArgumentException") (by decide +kernel)) (hts (.initialized "java/lang/IllegalArgumentException") (by decide +kernel)) rfl (fun w h => List.mem_cons_of_mem _ (List.mem_append_right _ h)) (by decide +kernel) (by decide +kernel) (by decide +kernel) hl.1 dX9_foretell_36 dX9_foretell_39 dX9_foretell_40 dX9_foretell_42 dX9_foretell_45 hout (Nat.le_of_ble_eq_true rfl) (Nat.le_of_ble_eq_true rfl) (Nat.le_of_ble_eq_true rfl) (Nat.le_of_ble_eq_true rfl) hlocks (by simp only [xFo, eq_false c4, eq_true c21, if_true, if_false]) (congr (congrArg (kJ ce0 ad K.2.2.1 cI cB cO cR) (by rfl)) (by rfl)) (Nat.le_of_ble_eq_true rfl) (Nat.le_of_ble_eq_true rfl)
    ·
      refine lv_iload_n hx hb dX9_foretell_24 rfl (lv_at hl 3 rfl) ?_
      refine k_callS (n := 1) (As := [.int b]) (rest := []) (st1 := .int (fIn b (-20) 40) :: []) S hG hL (c_X5_isWarmth s r hlv  b ) gX9_foretell_X5_isWarmth rfl ⟨rfl, rfl⟩ (by decide +kernel) ⟨Nat.le_of_ble_eq_true rfl, Nat.le_of_ble_eq_true rfl⟩ rfl hl.1 rfl (Nat.le_of_ble_eq_true rfl) dX9_foretell_25 ⟨Nat.le_of_ble_eq_true rfl, Nat.le_of_ble_eq_true rfl⟩ (rfl) (fun H locs hG hL => ?_)
      refine lv_if_eq (tgt := 36) hx hb dX9_foretell_28 (by decide) (fun c28 => ?_) (fun c28 => ?_)
      ·
        exact k_throw (cls := "java/lang/IllegalArgumentException") (text := "no bounds of a warmth") (i := 3) S hst hH hG hL (by decide +kernel) (hts (.classLink RX9 108 "java/lang/IllegalArgumentException") (by decide +kernel)) (hts (.initialized "java/lang/IllegalArgumentException") (by decide +kernel)) rfl (fun w h => List.mem_cons_of_mem _ (List.mem_append_right _ h)) (by decide +kernel) (by decide +kernel) (by decide +kernel) hl.1 dX9_foretell_36 dX9_foretell_39 dX9_foretell_40 dX9_foretell_42 dX9_foretell_45 hout (Nat.le_of_ble_eq_true rfl) (Nat.le_of_ble_eq_true rfl) (Nat.le_of_ble_eq_true rfl) (Nat.le_of_ble_eq_true rfl) hlocks (by simp only [xFo, eq_false c4, eq_false c21, eq_true c28, if_true, if_false]) (congr (congrArg (kJ ce0 ad K.2.2.1 cI cB cO cR) (by rfl)) (by rfl)) (Nat.le_of_ble_eq_true rfl) (Nat.le_of_ble_eq_true rfl)
      ·
        refine lv_iload_n hx hb dX9_foretell_31 rfl (lv_at hl 2 rfl) ?_
        refine lv_iload_n hx hb dX9_foretell_32 rfl (lv_at hl 3 rfl) ?_
        refine lv_icmp_le (tgt := 46) hx hb dX9_foretell_33 (by decide) (fun c33 => ?_) (fun c33 => ?_)
        ·
          refine lv_aload_n hx hb dX9_foretell_46 rfl (lv_at hl 0 rfl) ?_
          refine k_ga (C := RX9) (T := TX9) (N := 14) (ci := 10) (v := .ref (ad 103)) S hG (fun w h => List.mem_cons_of_mem _ (List.mem_append_left _ (List.mem_append_left _ (List.mem_append_left _ (List.mem_append_right _ h))))) 100 (hlv.f (by decide) (by decide)) rfl rfl 2 (by decide) rfl (hts (.fieldLink RX9 26 "SwarmLine" "sky" "LSwarmLine$Sky;") (by decide +kernel)) rfl dX9_foretell_47 ?_
          refine k_gaN (C := RX5) (T := TX5) (N := 4) (ci := 6) (v := .ref (ad 115)) S hG (fun w h => List.mem_cons_of_mem _ (List.mem_append_left _ (List.mem_append_left _ (List.mem_append_right _ h)))) 103 (hlv.f (by decide) (by decide)) rfl rfl 2 (by decide) rfl (by decide +kernel) rfl dX9_foretell_50 ?_
          refine lv_iload_n hx hb dX9_foretell_53 rfl (lv_at hl 1 rfl) ?_
          refine lv_iload_n hx hb dX9_foretell_54 rfl (lv_at hl 2 rfl) ?_
          refine k_ist (j := Int32.toNatClampNeg d) S hG hL 115 (hlv.f (by decide) (by decide)) rfl rfl (show vp_in d 31 from fIn_in c4 (by decide)) (kw_115 _ _) dX9_foretell_55 (fun H locs hG hL => ?_)
          refine lv_aload_n hx hb dX9_foretell_56 rfl (lv_at hl 0 rfl) ?_
          refine k_ga (C := RX9) (T := TX9) (N := 14) (ci := 10) (v := .ref (ad 103)) S hG (fun w h => List.mem_cons_of_mem _ (List.mem_append_left _ (List.mem_append_left _ (List.mem_append_left _ (List.mem_append_right _ h))))) 100 (hlv.f (by decide) (by decide)) rfl rfl 2 (by decide) rfl (hts (.fieldLink RX9 26 "SwarmLine" "sky" "LSwarmLine$Sky;") (by decide +kernel)) rfl dX9_foretell_57 ?_
          refine k_gaN (C := RX5) (T := TX5) (N := 4) (ci := 6) (v := .ref (ad 116)) S hG (fun w h => List.mem_cons_of_mem _ (List.mem_append_left _ (List.mem_append_left _ (List.mem_append_right _ h)))) 103 (hlv.f (by decide) (by decide)) rfl rfl 3 (by decide) rfl (by decide +kernel) rfl dX9_foretell_60 ?_
          refine lv_iload_n hx hb dX9_foretell_63 rfl (lv_at hl 1 rfl) ?_
          refine lv_iload_n hx hb dX9_foretell_64 rfl (lv_at hl 3 rfl) ?_
          refine k_ist (j := Int32.toNatClampNeg d) S hG hL 116 (hlv.f (by decide) (by decide)) rfl rfl (show vp_in d 31 from fIn_in c4 (by decide)) (kw_116 _ _) dX9_foretell_65 (fun H locs hG hL => ?_)
          exact x_vret S.1 hr hlocks hG hL (by simp only [xFo, eq_false c4, eq_false c21, eq_false c28, eq_true c33, if_true, if_false]) rfl (congr (congrArg (kJ ce0 ad K.2.2.1 cI cB cO cR) (by rfl)) (by rfl)) dX9_foretell_66 (Nat.le_of_ble_eq_true rfl) (Nat.le_of_ble_eq_true rfl)
        ·
          exact k_throw (cls := "java/lang/IllegalArgumentException") (text := "no bounds of a warmth") (i := 3) S hst hH hG hL (by decide +kernel) (hts (.classLink RX9 108 "java/lang/IllegalArgumentException") (by decide +kernel)) (hts (.initialized "java/lang/IllegalArgumentException") (by decide +kernel)) rfl (fun w h => List.mem_cons_of_mem _ (List.mem_append_right _ h)) (by decide +kernel) (by decide +kernel) (by decide +kernel) hl.1 dX9_foretell_36 dX9_foretell_39 dX9_foretell_40 dX9_foretell_42 dX9_foretell_45 hout (Nat.le_of_ble_eq_true rfl) (Nat.le_of_ble_eq_true rfl) (Nat.le_of_ble_eq_true rfl) (Nat.le_of_ble_eq_true rfl) hlocks (by simp only [xFo, eq_false c4, eq_false c21, eq_false c28, eq_false c33, if_true, if_false]) (congr (congrArg (kJ ce0 ad K.2.2.1 cI cB cO cR) (by rfl)) (by rfl)) (Nat.le_of_ble_eq_true rfl) (Nat.le_of_ble_eq_true rfl)
  ·
    exact k_throw (cls := "java/lang/IndexOutOfBoundsException") (text := "no such day") (i := 0) S hst hH hG hL (by decide +kernel) (hts (.classLink RX9 94 "java/lang/IndexOutOfBoundsException") (by decide +kernel)) (hts (.initialized "java/lang/IndexOutOfBoundsException") (by decide +kernel)) rfl (fun w h => List.mem_cons_of_mem _ (List.mem_append_left _ (List.mem_append_right _ h))) (by decide +kernel) (by decide +kernel) (by decide +kernel) hl.1 dX9_foretell_7 dX9_foretell_10 dX9_foretell_11 dX9_foretell_13 dX9_foretell_16 hout (Nat.le_of_ble_eq_true rfl) (Nat.le_of_ble_eq_true rfl) (Nat.le_of_ble_eq_true rfl) (Nat.le_of_ble_eq_true rfl) hlocks (by simp only [xFo, eq_true c4, if_true, if_false]) (congr (congrArg (kJ ce0 ad K.2.2.1 cI cB cO cR) (by rfl)) (by rfl)) (Nat.le_of_ble_eq_true rfl) (Nat.le_of_ble_eq_true rfl)
