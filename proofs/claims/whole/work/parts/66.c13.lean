/-! the draft of the turns -/
theorem kJ_rd {ce0 : Nat → va_E} {ad : Nat → Nat} {eA : Nat} {cI cB cO cR : ClassId} {s : Nat → Int32} {r : Nat → Nat → Int32} {i : Nat} (hi : i < 50) : kJ ce0 ad eA cI cB cO cR s r (150 + i) = .inl (cI, 12, .inl (r (130 + i))) := by
  unfold kJ
  rw [if_neg (by omega), if_neg (by omega), if_pos (by omega)]
  show kRw cI r (150 + i) = _
  unfold kRw
  rw [show 150 + i - 20 = 130 + i by omega]
def kSd (l : Int32) (r : Nat → Nat → Int32) : Int32 := if fIn l 0 16 = 0 then 0 else r 102 (Int32.toNatClampNeg l)
def kZd (l i : Int32) (r : Nat → Nat → Int32) : Int32 := if i < 0 then -1 else if kSd l r ≤ i then -1 else r (130 + Int32.toNatClampNeg l) (Int32.toNatClampNeg i)
theorem fIn_16 {l : Int32} (h0 : 0 ≤ l.toInt) (h1 : l.toInt ≤ 16) : ¬ fIn l 0 16 = 0 := by
  have z : (16 : Int32).toInt = 16 := rfl
  have a : ¬ l < 0 := by rw [t_lt, t_0]; omega
  have b : ¬ 16 < l := by rw [t_lt]; omega
  unfold fIn
  rw [if_neg a, if_neg b]
  decide
theorem kSd_in {l : Int32} {r : Nat → Nat → Int32} (h0 : 0 ≤ l.toInt) (h1 : l.toInt ≤ 16) : kSd l r = r 102 (Int32.toNatClampNeg l) := if_neg (fIn_16 h0 h1)
theorem kSd_i {l : Int32} {r : Nat → Nat → Int32} {i : Int32} (h0 : ¬ i < 0) (h : ¬ kSd l r ≤ i) : ¬ fIn l 0 16 = 0 := by
  intro z
  unfold kSd at h
  rw [if_pos z, t_le, t_0] at h
  rw [t_lt, t_0] at h0
  omega
theorem kZd_in {l i : Int32} {r : Nat → Nat → Int32} (h0 : 0 ≤ l.toInt) (h1 : l.toInt ≤ 16) (h2 : 0 ≤ i.toInt) (h3 : i.toInt < (r 102 (Int32.toNatClampNeg l)).toInt) : kZd l i r = r (130 + Int32.toNatClampNeg l) (Int32.toNatClampNeg i) := by
  unfold kZd
  rw [kSd_in h0 h1, if_neg (by rw [t_lt, t_0]; omega), if_neg (by rw [t_le]; omega)]
def hoF (t : Nat → Int32) (k : Int32) (b : Nat) : Nat → Nat → Int32
  | 0, _ => 0
  | n + 1, i => if b ≤ i then 0 else if t i = k then 1 else hoF t k b n (i + 1)
def hoV (ln k : Int32) (r : Nat → Nat → Int32) : Int32 := hoF (r (130 + Int32.toNatClampNeg ln)) k (r 102 (Int32.toNatClampNeg ln)).toNatClampNeg (1 + (r 102 (Int32.toNatClampNeg ln)).toNatClampNeg) 0

set_option maxHeartbeats 400000 in
set_option maxRecDepth 100000 in
theorem c_X8_sizeOf111 {l : Launch} {D : va_G} {cI cZ cB cO cR cJ : ClassId} {Hb : Heap} {K : kTx} {lv : Nat → Prop} {ad : Nat → Nat} {ce0 : Nat → va_E} (s : Nat → Int32) (r : Nat → Nat → Int32) (hlv : kL lv s) (ln : Int32)  : kMet l D cI cZ cB cO cR cJ Hb K lv ad ce0 yX8_sizeOf wsX8_sizeOf 1 22 [.ref (ad 111), .int ln] s r (some (.int (kSd ln r))) s r := by
  refine Met.ofW (cc := cX8_sizeOf) (maxL := 2) (ret := (some .int)) (by decide) rfl ?_
  intro p0 e0 s0 m0 args below meth c0 s₁ B hml hv
  obtain ⟨rfl, hG, hK, hE⟩ := hv
  have hx := B.exec
  have hb := B.bytes
  have hr := B.returns
  have hts := atoms_spec (ws := wsX8_sizeOf) B.pre
  have hown : s0.vm.findClass RX8 = some m0.cls := findClass_of_methodNamed B.named
  have hlocks := B.notSynchronized
  have S : kX p0 m0 c0 cX8_sizeOf 2 s0 _ wsX8_sizeOf RX8 D (tyL cI cZ cB cO cR cJ) Hb K := ⟨⟨hx, hb, hml, hown, hts⟩, hK, hE⟩
  have hL : gL Hb [] := gL.nil
  have hH := hG.2.2.2.2
  have hl := lv_entry ([.ref (ad 111), .int ln]) (n := 2) (Nat.le_of_ble_eq_true rfl)
  rw [lg_entry_eq]
  generalize (lg_sl ([.ref (ad 111), .int ln]) ++ List.replicate (2 - (lg_sl ([.ref (ad 111), .int ln])).length) Slot.unset).toArray = ls at hl ⊢
  have hl : lv_has ls 2 [(0, .ref (ad 111)), (1, .int ln)] := hl
  refine lv_iload_n hx hb dX8_sizeOf_0 rfl (lv_at hl 1 rfl) ?_
  refine lv_iconst (v := 0) hx hb dX8_sizeOf_1 (by decide) ?_
  refine lv_bipush (v := 16) hx hb dX8_sizeOf_2 (by decide) ?_
  refine k_callPN (n := 3) (As := [.int ln, .int 0, .int 16]) (rest := []) (st1 := .int (fIn ln 0 16) :: []) S (c_X9_isWithin ln 0 16) gX8_sizeOf_X9_isWithin_n28 rfl (by decide +kernel) (hts (.initialized RX9) (by decide +kernel)) (hts (.static yX9_isWithin) (by decide +kernel)) (by decide +kernel) ⟨Nat.le_of_ble_eq_true rfl, Nat.le_of_ble_eq_true rfl⟩ rfl hl.1 rfl (Nat.le_of_ble_eq_true rfl) dX8_sizeOf_4 ⟨Nat.zero_le _, Nat.zero_le _⟩ (rfl) ?_
  refine lv_if_eq (tgt := 19) hx hb dX8_sizeOf_7 (by decide) (fun c7 => ?_) (fun c7 => ?_)
  ·
    refine lv_iconst (v := 0) hx hb dX8_sizeOf_19 (by decide) ?_
    exact g_iret S.1 hr hlocks hG hL (congrArg (fun z => some (Value.int z)) (by simp only [kSd, eq_true c7, if_true, if_false])) (congr (congrArg (kJ ce0 ad K.2.2.1 cI cB cO cR) (by rfl)) (by rfl)) dX8_sizeOf_20
  ·
    refine lv_aload_n hx hb dX8_sizeOf_10 rfl (lv_at hl 0 rfl) ?_
    refine k_ga (C := RX8) (T := TX8) (N := 3) (ci := 9) (v := .ref (ad 122)) S hG (fun w h => List.mem_cons_of_mem _ (List.mem_append_right _ h)) 111 (hlv.f (by decide) (by decide)) rfl rfl 1 (by decide) rfl (hts (.fieldLink RX8 16 "SwarmLine$Turns" "sizes" "[I") (by decide +kernel)) rfl dX8_sizeOf_11 ?_
    refine lv_iload_n hx hb dX8_sizeOf_14 rfl (lv_at hl 1 rfl) ?_
    refine k_ild (j := Int32.toNatClampNeg ln) (v := r 102 (Int32.toNatClampNeg ln)) S hG 122 (hlv.f (by decide) (by decide)) rfl rfl (show vp_in ln 17 from fIn_in c7 (by decide)) (rfl) dX8_sizeOf_15 ?_
    refine lv_goto (tgt := 20) hx hb dX8_sizeOf_16 (by decide) ?_
    exact g_iret S.1 hr hlocks hG hL (congrArg (fun z => some (Value.int z)) (by simp only [kSd, eq_false c7, if_true, if_false])) (congr (congrArg (kJ ce0 ad K.2.2.1 cI cB cO cR) (by rfl)) (by rfl)) dX8_sizeOf_20

set_option maxHeartbeats 400000 in
set_option maxRecDepth 100000 in
theorem c_X8_keeperAt111 {l : Launch} {D : va_G} {cI cZ cB cO cR cJ : ClassId} {Hb : Heap} {K : kTx} {lv : Nat → Prop} {ad : Nat → Nat} {ce0 : Nat → va_E} (s : Nat → Int32) (r : Nat → Nat → Int32) (hlv : kL lv s) (ln : Int32) (i : Int32) (h12 : (kSd ln r).toInt ≤ 12) : kMet l D cI cZ cB cO cR cJ Hb K lv ad ce0 yX8_keeperAt wsX8_keeperAt 2 43 [.ref (ad 111), .int ln, .int i] s r (some (.int (kZd ln i r))) s r := by
  refine Met.ofW (cc := cX8_keeperAt) (maxL := 3) (ret := (some .int)) (by decide) rfl ?_
  intro p0 e0 s0 m0 args below meth c0 s₁ B hml hv
  obtain ⟨rfl, hG, hK, hE⟩ := hv
  have hx := B.exec
  have hb := B.bytes
  have hr := B.returns
  have hts := atoms_spec (ws := wsX8_keeperAt) B.pre
  have hown : s0.vm.findClass RX8 = some m0.cls := findClass_of_methodNamed B.named
  have hlocks := B.notSynchronized
  have S : kX p0 m0 c0 cX8_keeperAt 3 s0 _ wsX8_keeperAt RX8 D (tyL cI cZ cB cO cR cJ) Hb K := ⟨⟨hx, hb, hml, hown, hts⟩, hK, hE⟩
  have hL : gL Hb [] := gL.nil
  have hH := hG.2.2.2.2
  have hl := lv_entry ([.ref (ad 111), .int ln, .int i]) (n := 3) (Nat.le_of_ble_eq_true rfl)
  rw [lg_entry_eq]
  generalize (lg_sl ([.ref (ad 111), .int ln, .int i]) ++ List.replicate (3 - (lg_sl ([.ref (ad 111), .int ln, .int i])).length) Slot.unset).toArray = ls at hl ⊢
  have hl : lv_has ls 3 [(0, .ref (ad 111)), (1, .int ln), (2, .int i)] := hl
  refine lv_iload_n hx hb dX8_keeperAt_0 rfl (lv_at hl 2 rfl) ?_
  refine lv_if_lt (tgt := 24) hx hb dX8_keeperAt_1 (by decide) (fun c1 => ?_) (fun c1 => ?_)
  ·
    refine lv_iconst (v := (-1)) hx hb dX8_keeperAt_24 (by decide) ?_
    exact g_iret S.1 hr hlocks hG hL (congrArg (fun z => some (Value.int z)) (by simp only [kZd, eq_true c1, if_true, if_false])) (congr (congrArg (kJ ce0 ad K.2.2.1 cI cB cO cR) (by rfl)) (by rfl)) dX8_keeperAt_25
  ·
    refine lv_iload_n hx hb dX8_keeperAt_4 rfl (lv_at hl 2 rfl) ?_
    refine lv_aload_n hx hb dX8_keeperAt_5 rfl (lv_at hl 0 rfl) ?_
    refine lv_iload_n hx hb dX8_keeperAt_6 rfl (lv_at hl 1 rfl) ?_
    refine k_callV (n := 1) (As := [.int ln]) (rest := [.int i]) (st1 := .int (kSd ln r) :: [.int i]) (k := 111) (ci := 9) S hG hL (hlv.f (by decide) (by decide)) rfl rfl (c_X8_sizeOf111 s r hlv  ln ) gX8_keeperAt_X8_sizeOf rfl ⟨rfl, rfl⟩ (by decide +kernel) ⟨Nat.le_of_ble_eq_true rfl, Nat.le_of_ble_eq_true rfl⟩ rfl hl.1 rfl (Nat.le_of_ble_eq_true rfl) dX8_keeperAt_7 ⟨Nat.zero_le _, Nat.zero_le _⟩ (rfl) (fun H locs hG hL => ?_)
    refine lv_icmp_ge (tgt := 24) hx hb dX8_keeperAt_10 (by decide) (fun c10 => ?_) (fun c10 => ?_)
    ·
      refine lv_iconst (v := (-1)) hx hb dX8_keeperAt_24 (by decide) ?_
      exact g_iret S.1 hr hlocks hG hL (congrArg (fun z => some (Value.int z)) (by simp only [kZd, eq_false c1, eq_true c10, if_true, if_false])) (congr (congrArg (kJ ce0 ad K.2.2.1 cI cB cO cR) (by rfl)) (by rfl)) dX8_keeperAt_25
    ·
      refine lv_aload_n hx hb dX8_keeperAt_13 rfl (lv_at hl 0 rfl) ?_
      refine k_ga (C := RX8) (T := TX8) (N := 3) (ci := 9) (v := .ref (ad 120)) S hG (fun w h => List.mem_cons_of_mem _ (List.mem_append_right _ h)) 111 (hlv.f (by decide) (by decide)) rfl rfl 0 (by decide) rfl (hts (.fieldLink RX8 13 "SwarmLine$Turns" "rows" "[[I") (by decide +kernel)) rfl dX8_keeperAt_14 ?_
      refine lv_iload_n hx hb dX8_keeperAt_17 rfl (lv_at hl 1 rfl) ?_
      refine k_rld (j := Int32.toNatClampNeg ln) (q := ad (150 + (Int32.toNatClampNeg ln))) S hG 120 (hlv.f (by decide) (by decide)) rfl rfl (fIn_in (kSd_i c1 c10) (by decide)) (if_pos (ix_le (fIn_b (kSd_i c1 c10)).1 (by have q := (fIn_b (kSd_i c1 c10)).2; have z : (16 : Int32).toInt = 16 := rfl; omega))) dX8_keeperAt_18 ?_
      refine lv_iload_n hx hb dX8_keeperAt_19 rfl (lv_at hl 2 rfl) ?_
      refine k_ild (j := Int32.toNatClampNeg i) (v := r (130 + Int32.toNatClampNeg ln) (Int32.toNatClampNeg i)) S hG (150 + Int32.toNatClampNeg ln) (hlv.rd (ix_le (fIn_b (kSd_i c1 c10)).1 (by have q := (fIn_b (kSd_i c1 c10)).2; have z : (16 : Int32).toInt = 16 := rfl; omega))) (kJ_rd (Nat.lt_trans (ix_le (n := 17) (fIn_b (kSd_i c1 c10)).1 (by have q := (fIn_b (kSd_i c1 c10)).2; have z : (16 : Int32).toInt = 16 := rfl; omega)) (by decide))) rfl (show vp_in i 12 from vp_in_t (by have q := c1; rw [t_lt, t_0] at q; omega) (by have q := c10; rw [t_le] at q; have q2 := h12; omega)) (rfl) dX8_keeperAt_20 ?_
      refine lv_goto (tgt := 25) hx hb dX8_keeperAt_21 (by decide) ?_
      exact g_iret S.1 hr hlocks hG hL (congrArg (fun z => some (Value.int z)) (by simp only [kZd, eq_false c1, eq_false c10, if_true, if_false])) (congr (congrArg (kJ ce0 ad K.2.2.1 cI cB cO cR) (by rfl)) (by rfl)) dX8_keeperAt_25

set_option maxHeartbeats 400000 in
set_option maxRecDepth 100000 in
theorem c_X8_holds {l : Launch} {D : va_G} {cI cZ cB cO cR cJ : ClassId} {Hb : Heap} {K : kTx} {lv : Nat → Prop} {ad : Nat → Nat} {ce0 : Nat → va_E} (s : Nat → Int32) (r : Nat → Nat → Int32) (hlv : kL lv s) (ln : Int32) (k : Int32) (hl0 : 0 ≤ ln.toInt) (hl1 : ln.toInt ≤ 16) (h0 : 0 ≤ (r 102 (Int32.toNatClampNeg ln)).toInt) (h1 : (r 102 (Int32.toNatClampNeg ln)).toInt ≤ 12) : kMet l D cI cZ cB cO cR cJ Hb K lv ad ce0 yX8_holds wsX8_holds 3 65 [.ref (ad 111), .int ln, .int k] s r (some (.int (hoV ln k r))) s r := by
  refine Met.ofW (cc := cX8_holds) (maxL := 4) (ret := (some .boolean)) (by decide) rfl ?_
  intro p0 e0 s0 m0 args below meth c0 s₁ B hml hv
  obtain ⟨rfl, hG, hK, hE⟩ := hv
  have hx := B.exec
  have hb := B.bytes
  have hr := B.returns
  have hts := atoms_spec (ws := wsX8_holds) B.pre
  have hown : s0.vm.findClass RX8 = some m0.cls := findClass_of_methodNamed B.named
  have hlocks := B.notSynchronized
  have S : kX p0 m0 c0 cX8_holds 4 s0 _ wsX8_holds RX8 D (tyL cI cZ cB cO cR cJ) Hb K := ⟨⟨hx, hb, hml, hown, hts⟩, hK, hE⟩
  have hL : gL Hb [] := gL.nil
  have hH := hG.2.2.2.2
  have hl := lv_entry ([.ref (ad 111), .int ln, .int k]) (n := 4) (Nat.le_of_ble_eq_true rfl)
  rw [lg_entry_eq]
  generalize (lg_sl ([.ref (ad 111), .int ln, .int k]) ++ List.replicate (4 - (lg_sl ([.ref (ad 111), .int ln, .int k])).length) Slot.unset).toArray = ls at hl ⊢
  have hl : lv_has ls 4 [(0, .ref (ad 111)), (1, .int ln), (2, .int k)] := hl
  refine lv_iconst (v := 0) hx hb dX8_holds_0 (by decide) ?_
  refine lv_istore_n (lv' := [(3, .int 0), (0, .ref (ad 111)), (1, .int ln), (2, .int k)]) hx hb dX8_holds_1 rfl hl (by decide) rfl (fun ls hl => ?_)
  have LP : ∀ (n : Nat) (i : Nat) (x : Int32) (ex : x = nI i) (hi : i ≤ (r 102 (Int32.toNatClampNeg ln)).toNatClampNeg) (hn : (r 102 (Int32.toNatClampNeg ln)).toNatClampNeg + 1 ≤ i + n) (hF : hoF (r (130 + Int32.toNatClampNeg ln)) k (r 102 (Int32.toNatClampNeg ln)).toNatClampNeg n i = hoV ln k r), ∀ (H : Heap) (locs : List Loc), gW D Hb lv ad (kJ ce0 ad K.2.2.1 cI cB cO cR s r) H → gL Hb locs → ∀ (ls : Array Slot), lv_has ls 4 [(0, .ref (ad 111)), (1, .int ln), (2, .int k), (3, .int x)] → W p0 l e0 (headSpec wsX8_holds { frames := 3, cells := 0, slots := 0, locals := 65 }).room s0 m0 ([.ref (ad 111), .int ln, .int k] : List Value).toArray below meth c0 H locs 0 0 (MQ below (gQ D Hb lv ad (some (.int (hoV ln k r))) (kJ ce0 ad K.2.2.1 cI cB cO cR s r)) ([.ref (ad 111), .int ln, .int k] : List Value).toArray s0 0 0 (gA Hb)) (F0 m0 2 ls []) := by
    intro n
    induction n with
    | zero => intro i x ex hi hn hF; exact absurd hn (by omega)
    | succ n ih =>
      intro i x ex hi hn hF H locs hG hL ls hl
      have hbd : (r 102 (Int32.toNatClampNeg ln)).toNatClampNeg ≤ 12 := t_ixl h0 h1; have hii : Int32.toNatClampNeg x = i := by { rw [ex]; exact ix_nI (by omega) }
      refine lv_iload_n hx hb dX8_holds_2 rfl (lv_at hl 3 rfl) ?_
      refine lv_aload_n hx hb dX8_holds_3 rfl (lv_at hl 0 rfl) ?_
      refine lv_iload_n hx hb dX8_holds_4 rfl (lv_at hl 1 rfl) ?_
      refine k_callV (n := 1) (As := [.int ln]) (rest := [.int x]) (st1 := .int (r 102 (Int32.toNatClampNeg ln)) :: [.int x]) (k := 111) (ci := 9) S hG hL (hlv.f (by decide) (by decide)) rfl rfl (c_X8_sizeOf111 s r hlv  ln ) gX8_holds_X8_sizeOf rfl ⟨rfl, rfl⟩ (by decide +kernel) ⟨Nat.le_of_ble_eq_true rfl, Nat.le_of_ble_eq_true rfl⟩ rfl hl.1 rfl (Nat.le_of_ble_eq_true rfl) dX8_holds_5 ⟨Nat.zero_le _, Nat.zero_le _⟩ (by rw [kSd_in hl0 hl1]; rfl) (fun H locs hG hL => ?_)
      refine lv_icmp_ge (tgt := 29) hx hb dX8_holds_8 (by decide) (fun c8 => ?_) (fun c8 => ?_)
      ·
        have hEq := cl_ge h0 hi (ex ▸ c8)
        refine lv_iconst (v := 0) hx hb dX8_holds_29 (by decide) ?_
        exact g_zret S.1 hr hlocks (by decide) hG hL (congrArg (fun z => some (Value.int z)) (by rw [← hF]; simp only [hoF, eq_true (show (r 102 (Int32.toNatClampNeg ln)).toNatClampNeg ≤ i by omega), ↓reduceIte])) (congr (congrArg (kJ ce0 ad K.2.2.1 cI cB cO cR) (by rfl)) (by rfl)) dX8_holds_30
      ·
        have hlt := cl_lt h0 hi (ex ▸ c8)
        refine lv_aload_n hx hb dX8_holds_11 rfl (lv_at hl 0 rfl) ?_
        refine lv_iload_n hx hb dX8_holds_12 rfl (lv_at hl 1 rfl) ?_
        refine lv_iload_n hx hb dX8_holds_13 rfl (lv_at hl 3 rfl) ?_
        refine k_callV (n := 2) (As := [.int ln, .int x]) (rest := []) (st1 := .int (r (130 + Int32.toNatClampNeg ln) i) :: []) (k := 111) (ci := 9) S hG hL (hlv.f (by decide) (by decide)) rfl rfl (c_X8_keeperAt111 s r hlv  ln x (by rw [kSd_in hl0 hl1]; exact h1)) gX8_holds_X8_keeperAt rfl ⟨rfl, rfl⟩ (by decide +kernel) ⟨Nat.le_of_ble_eq_true rfl, Nat.le_of_ble_eq_true rfl⟩ rfl hl.1 rfl (Nat.le_of_ble_eq_true rfl) dX8_holds_14 ⟨Nat.zero_le _, Nat.zero_le _⟩ (by rw [kZd_in hl0 hl1 (g_x0 ex (by omega)) (g_x1 ex hlt (by omega) h0), hii]; rfl) (fun H locs hG hL => ?_)
        refine lv_iload_n hx hb dX8_holds_17 rfl (lv_at hl 2 rfl) ?_
        refine lv_icmp_ne (tgt := 23) hx hb dX8_holds_18 (by decide) (fun c18 => ?_) (fun c18 => ?_)
        ·
          refine lv_iinc (v := x + 1) (lv' := [(3, .int (x + 1)), (0, .ref (ad 111)), (1, .int ln), (2, .int k)]) hx hb dX8_holds_23 hl (k := 3) rfl (by rfl) (by decide) rfl (fun ls hl => ?_)
          refine lv_goto (tgt := 2) hx hb dX8_holds_26 (by decide) ?_
          exact ih  (i + 1) (x + 1) (by rw [ex]; exact nI_1 i) (hlt) (by omega) (by rw [← hF]; simp only [hoF, eq_false (show ¬ (r 102 (Int32.toNatClampNeg ln)).toNatClampNeg ≤ i by omega), eq_false c18, ↓reduceIte]) _ _ hG hL _ (lv_sub hl [1, 2, 3, 0] rfl)
        ·
          refine lv_iconst (v := 1) hx hb dX8_holds_21 (by decide) ?_
          exact g_zret S.1 hr hlocks (by decide) hG hL (congrArg (fun z => some (Value.int z)) (by rw [← hF]; simp only [hoF, eq_false (show ¬ (r 102 (Int32.toNatClampNeg ln)).toNatClampNeg ≤ i by omega), eq_true c18, ↓reduceIte])) (congr (congrArg (kJ ce0 ad K.2.2.1 cI cB cO cR) (by rfl)) (by rfl)) dX8_holds_22
  exact LP (1 + (r 102 (Int32.toNatClampNeg ln)).toNatClampNeg) 0 0 (rfl) (Nat.zero_le _) (by omega) (rfl) _ _ hG hL _ (lv_sub hl [1, 2, 3, 0] rfl)
