/-! loops over the lists -/
theorem g_x0 {x : Int32} {i : Nat} (ex : x = nI i) (h : i ≤ 5000) : 0 ≤ x.toInt := by rw [ex, nI_toInt (by omega)]; omega
theorem g_x1 {x n : Int32} {i : Nat} (ex : x = nI i) (hi : i < n.toNatClampNeg) (h : i ≤ 5000) (h0 : 0 ≤ n.toInt) : x.toInt < n.toInt := by
  have := t_ix h0
  rw [ex, nI_toInt (by omega)]; omega
def kbS (r : Nat → Nat → Int32) (z : Int32) : Nat → Int32
  | 0 => z
  | n + 1 => if r 15 n = 2 then kbS r z n else kbS r z n + r 17 n
def vKc (w : Int32) (s : Nat → Int32) (r : Nat → Nat → Int32) : Int32 := if w = 0 then s 1 else if w = 1 then s 6 else if w = 2 then s 14 else if w = 3 then s 26 else if w = 4 then s 39 else if w = 5 then s 40 else if w = 6 then s 52 else if w = 7 then cnS r 0 (s 14).toNatClampNeg else if w = 8 then cnS r 1 (s 14).toNatClampNeg else if w = 9 then cnS r 2 (s 14).toNatClampNeg else if w = 10 then opN r (s 39).toNatClampNeg else if w = 11 then kbS r (hbN r (s 6).toNatClampNeg) (s 14).toNatClampNeg else -1
theorem vKc_out {w : Int32} (h : w.toInt < 0 ∨ 11 < w.toInt) (s : Nat → Int32) (r : Nat → Nat → Int32) : vKc w s r = -1 := by
  have q : ∀ v : Int32, 0 ≤ v.toInt → v.toInt ≤ 11 → ¬ w = v := fun v a b e => by subst e; omega
  simp only [vKc, eq_false (q 0 (by decide) (by decide)), eq_false (q 1 (by decide) (by decide)), eq_false (q 2 (by decide) (by decide)), eq_false (q 3 (by decide) (by decide)), eq_false (q 4 (by decide) (by decide)), eq_false (q 5 (by decide) (by decide)), eq_false (q 6 (by decide) (by decide)), eq_false (q 7 (by decide) (by decide)), eq_false (q 8 (by decide) (by decide)), eq_false (q 9 (by decide) (by decide)), eq_false (q 10 (by decide) (by decide)), eq_false (q 11 (by decide) (by decide)), ↓reduceIte]
def faP (s : Nat → Int32) (r : Nat → Nat → Int32) (j : Nat) : Bool := if kAl j (s 1) s r = 0 then false else true
def nsF (x y : Int32) (r : Nat → Nat → Int32) : Nat → Int32 × Int32
  | 0 => (-1, 2)
  | n + 1 => if r 15 n = 0 then (if (nsF x y r n).2 ≤ kSt (r 18 n) (r 19 n) x y then nsF x y r n else (nI n, kSt (r 18 n) (r 19 n) x y)) else nsF x y r n
def kHt (i : Nat) (x y : Int32) (r : Nat → Nat → Int32) : Int32 := htF (kSt (r 27 i) (r 28 i) x y) (r 31 i) 19 1
def soR (i : Nat) (c x y : Int32) (r : Nat → Nat → Int32) : Nat → Nat → Int32 := up2 (up2 (up2 (up2 r 34 i 1) 37 i c) 36 i (kHt i x y r)) 35 i (kHt i x y r)
theorem kHt_up (i : Nat) (x y : Int32) (r : Nat → Nat → Int32) (a b : Int32) : kHt i x y (up2 (up2 r 34 i a) 37 i b) = kHt i x y r := rfl
def kwF (j : Nat) (s : Nat → Int32) (r : Nat → Nat → Int32) : Nat → Int32
  | 0 => 0
  | n + 1 => if kAg n j s r = 0 then (if hgV j 1 s r = -1 then kwF j s r n ||| (1 <<< (nI n &&& 31)) else if hgV j 1 s r ≤ s 1 + kHt n (r 42 j) (r 43 j) r then kwF j s r n else kwF j s r n ||| (1 <<< (nI n &&& 31))) else kwF j s r n
def aaS (s : Nat → Int32) : Nat → Int32 := if 12 ≤ s 57 then s else upd s 57 (s 57 + 1)
def aaR (k a : Int32) (s : Nat → Int32) (r : Nat → Nat → Int32) : Nat → Nat → Int32 := if 12 ≤ s 57 then r else up2 (up2 r 58 (Int32.toNatClampNeg (s 57)) k) 59 (Int32.toNatClampNeg (s 57)) a
def ctS (ok : Int32) (s : Nat → Int32) : Nat → Int32 := upd (upd s 64 (if ok = 0 then s 101 else -1)) 61 0
theorem sCt_0 {s : Nat → Int32} (h : 0 ≤ (s 61).toInt) : sCt 0 s = upd s 61 0 := by
  unfold sCt
  have h2 : (0 : Int32) ≤ s 61 := by rw [t_le]; exact h
  rw [if_neg (by decide), if_pos h2]

set_option maxHeartbeats 4000000 in
set_option maxRecDepth 100000 in
theorem c_X9_swarmsThatAre {l : Launch} {D : va_G} {cI cZ cB cO cR cJ : ClassId} {Hb : Heap} {K : kTx} {lv : Nat → Prop} {ad : Nat → Nat} {ce0 : Nat → va_E} (s : Nat → Int32) (r : Nat → Nat → Int32) (hlv : kL lv s) (st : Int32) (h0 : 0 ≤ (s 14).toInt) (h1 : (s 14).toInt ≤ 60) : kMet l D cI cZ cB cO cR cJ Hb K lv ad ce0 yX9_swarmsThatAre wsX9_swarmsThatAre 3 64 [.ref (ad 100), .int st] s r (some (.int (cnS r st (s 14).toNatClampNeg))) s r := by
  refine Met.ofW (cc := cX9_swarmsThatAre) (maxL := 4) (ret := (some .int)) (by decide) rfl ?_
  intro p0 e0 s0 m0 args below meth c0 s₁ B hml hv
  obtain ⟨rfl, hG, hK, hE⟩ := hv
  have hx := B.exec
  have hb := B.bytes
  have hr := B.returns
  have hts := atoms_spec (ws := wsX9_swarmsThatAre) B.pre
  have hown : s0.vm.findClass RX9 = some m0.cls := findClass_of_methodNamed B.named
  have hlocks := B.notSynchronized
  have S : kX p0 m0 c0 cX9_swarmsThatAre 4 s0 _ wsX9_swarmsThatAre RX9 D (tyL cI cZ cB cO cR cJ) Hb K := ⟨⟨hx, hb, hml, hown, hts⟩, hK, hE⟩
  have hL : gL Hb [] := gL.nil
  have hH := hG.2.2.2.2
  have hl := lv_entry ([.ref (ad 100), .int st]) (n := 4) (Nat.le_of_ble_eq_true rfl)
  rw [lg_entry_eq]
  generalize (lg_sl ([.ref (ad 100), .int st]) ++ List.replicate (4 - (lg_sl ([.ref (ad 100), .int st])).length) Slot.unset).toArray = ls at hl ⊢
  have hl : lv_has ls 4 [(0, .ref (ad 100)), (1, .int st)] := hl
  refine lv_iconst (v := 0) hx hb dX9_swarmsThatAre_0 (by decide) ?_
  refine lv_istore_n (lv' := [(2, .int 0), (0, .ref (ad 100)), (1, .int st)]) hx hb dX9_swarmsThatAre_1 rfl hl (by decide) rfl (fun ls hl => ?_)
  refine lv_iconst (v := 0) hx hb dX9_swarmsThatAre_2 (by decide) ?_
  refine lv_istore_n (lv' := [(3, .int 0), (2, .int 0), (0, .ref (ad 100)), (1, .int st)]) hx hb dX9_swarmsThatAre_3 rfl hl (by decide) rfl (fun ls hl => ?_)
  have LP : ∀ (n : Nat) (i : Nat) (x : Int32) (a : Int32) (ex : x = nI i) (hi : i ≤ (s 14).toNatClampNeg) (hn : (s 14).toNatClampNeg + 1 ≤ i + n) (ha : a = cnS r st i), ∀ (H : Heap) (locs : List Loc), gW D Hb lv ad (kJ ce0 ad K.2.2.1 cI cB cO cR s r) H → gL Hb locs → ∀ (ls : Array Slot), lv_has ls 4 [(0, .ref (ad 100)), (1, .int st), (2, .int a), (3, .int x)] → W p0 l e0 (headSpec wsX9_swarmsThatAre { frames := 3, cells := 0, slots := 0, locals := 64 }).room s0 m0 ([.ref (ad 100), .int st] : List Value).toArray below meth c0 H locs 0 0 (MQ below (gQ D Hb lv ad (some (.int (cnS r st (s 14).toNatClampNeg))) (kJ ce0 ad K.2.2.1 cI cB cO cR s r)) ([.ref (ad 100), .int st] : List Value).toArray s0 0 0 (gA Hb)) (F0 m0 4 ls []) := by
    intro n
    induction n with
    | zero => intro i x a ex hi hn ha; exact absurd hn (by omega)
    | succ n ih =>
      intro i x a ex hi hn ha H locs hG hL ls hl
      have hbd : (s 14).toNatClampNeg ≤ 60 := t_ixl h0 h1; have hii : Int32.toNatClampNeg x = i := by { rw [ex]; exact ix_nI (by omega) }
      refine lv_iload_n hx hb dX9_swarmsThatAre_4 rfl (lv_at hl 3 rfl) ?_
      refine lv_aload_n hx hb dX9_swarmsThatAre_5 rfl (lv_at hl 0 rfl) ?_
      refine k_ga (C := RX9) (T := TX9) (N := 14) (ci := 10) (v := .ref (ad 106)) S hG (fun w h => List.mem_cons_of_mem _ (List.mem_append_left _ (List.mem_append_left _ (List.mem_append_right _ h)))) 100 (hlv.f (by decide) (by decide)) rfl rfl 5 (by decide) rfl (hts (.fieldLink RX9 44 "SwarmLine" "swarms" "Ljava/util/ArrayList;") (by decide +kernel)) rfl dX9_swarmsThatAre_6 ?_
      refine k_callV (n := 0) (As := []) (rest := [.int x]) (st1 := .int (s 14) :: [.int x]) (k := 106) (ci := 0) S hG hL (hlv.f (by decide) (by decide)) rfl rfl (c_size1 s r hlv   ) gX9_swarmsThatAre_Jx4a65c_size_8abf5 rfl ⟨rfl, rfl⟩ (by decide +kernel) ⟨Nat.le_of_ble_eq_true rfl, Nat.le_of_ble_eq_true rfl⟩ rfl hl.1 rfl (Nat.le_of_ble_eq_true rfl) dX9_swarmsThatAre_9 ⟨Nat.zero_le _, Nat.zero_le _⟩ (rfl) (fun H locs hG hL => ?_)
      refine lv_icmp_ge (tgt := 42) hx hb dX9_swarmsThatAre_12 (by decide) (fun c12 => ?_) (fun c12 => ?_)
      ·
        have hEq := cl_ge h0 hi (ex ▸ c12)
        refine lv_iload_n hx hb dX9_swarmsThatAre_42 rfl (lv_at hl 2 rfl) ?_
        exact g_iret S.1 hr hlocks hG hL (congrArg (fun z => some (Value.int z)) (by rw [ha, hEq])) (congr (congrArg (kJ ce0 ad K.2.2.1 cI cB cO cR) (by rfl)) (by rfl)) dX9_swarmsThatAre_43
      ·
        have hlt := cl_lt h0 hi (ex ▸ c12)
        refine lv_aload_n hx hb dX9_swarmsThatAre_15 rfl (lv_at hl 0 rfl) ?_
        refine k_ga (C := RX9) (T := TX9) (N := 14) (ci := 10) (v := .ref (ad 106)) S hG (fun w h => List.mem_cons_of_mem _ (List.mem_append_left _ (List.mem_append_left _ (List.mem_append_right _ h)))) 100 (hlv.f (by decide) (by decide)) rfl rfl 5 (by decide) rfl (hts (.fieldLink RX9 44 "SwarmLine" "swarms" "Ljava/util/ArrayList;") (by decide +kernel)) rfl dX9_swarmsThatAre_16 ?_
        refine lv_iload_n hx hb dX9_swarmsThatAre_19 rfl (lv_at hl 3 rfl) ?_
        refine k_callV (n := 1) (As := [.int x]) (rest := []) (st1 := .ref (ad (2000 + i)) :: []) (k := 106) (ci := 0) S hG hL (hlv.f (by decide) (by decide)) rfl rfl (c_get1 s r hlv  x (g_x0 ex (by omega)) (g_x1 ex hlt (by omega) h0) (h1)) gX9_swarmsThatAre_Jx4a65c_get_915e3 rfl ⟨rfl, rfl⟩ (by decide +kernel) ⟨Nat.le_of_ble_eq_true rfl, Nat.le_of_ble_eq_true rfl⟩ rfl hl.1 rfl (Nat.le_of_ble_eq_true rfl) dX9_swarmsThatAre_20 ⟨Nat.zero_le _, Nat.zero_le _⟩ (by rw [hii]; rfl) (fun H locs hG hL => ?_)
        refine k_cast (C := RX6) (T := TX6) (N := 11) (ci := 7) S hG (2000 + i) (hlv.sw hlt) (kJ_sw (by omega)) rfl (hts (.classLink RX9 292 "SwarmLine$Swarm") (by decide +kernel)) dX9_swarmsThatAre_23 ?_
        refine k_giN (C := RX6) (T := TX6) (N := 11) (ci := 7) (v := r 15 i) S hG (fun w h => List.mem_cons_of_mem _ (List.mem_append_left _ (List.mem_append_right _ h))) (2000 + i) (hlv.sw hlt) (kJ_sw (by omega)) rfl 7 (by decide) rfl (by decide +kernel) rfl (rfl) dX9_swarmsThatAre_26 ?_
        refine lv_iload_n hx hb dX9_swarmsThatAre_29 rfl (lv_at hl 1 rfl) ?_
        refine lv_icmp_ne (tgt := 36) hx hb dX9_swarmsThatAre_30 (by decide) (fun c30 => ?_) (fun c30 => ?_)
        ·
          refine lv_iinc (v := x + 1) (lv' := [(3, .int (x + 1)), (0, .ref (ad 100)), (1, .int st), (2, .int a)]) hx hb dX9_swarmsThatAre_36 hl (k := 3) rfl (by rfl) (by decide) rfl (fun ls hl => ?_)
          refine lv_goto (tgt := 4) hx hb dX9_swarmsThatAre_39 (by decide) ?_
          exact ih  (i + 1) (x + 1) a (by rw [ex]; exact nI_1 i) (hlt) (by omega) (by rw [ha]; simp only [cnS, eq_false c12, eq_false c30, ↓reduceIte, Int32.add_zero]) _ _ hG hL _ (lv_sub hl [1, 2, 3, 0] rfl)
        ·
          refine lv_iinc (v := a + 1) (lv' := [(2, .int (a + 1)), (0, .ref (ad 100)), (1, .int st), (3, .int x)]) hx hb dX9_swarmsThatAre_33 hl (k := 2) rfl (by rfl) (by decide) rfl (fun ls hl => ?_)
          refine lv_iinc (v := x + 1) (lv' := [(3, .int (x + 1)), (2, .int (a + 1)), (0, .ref (ad 100)), (1, .int st)]) hx hb dX9_swarmsThatAre_36 hl (k := 3) rfl (by rfl) (by decide) rfl (fun ls hl => ?_)
          refine lv_goto (tgt := 4) hx hb dX9_swarmsThatAre_39 (by decide) ?_
          exact ih  (i + 1) (x + 1) (a + 1) (by rw [ex]; exact nI_1 i) (hlt) (by omega) (by rw [ha]; simp only [cnS, eq_false c12, eq_true c30, ↓reduceIte, Int32.add_zero]) _ _ hG hL _ (lv_sub hl [2, 3, 1, 0] rfl)
  exact LP ((s 14).toNatClampNeg + 1) 0 0 0 (rfl) (Nat.zero_le _) (by omega) (rfl) _ _ hG hL _ (lv_sub hl [2, 3, 1, 0] rfl)

set_option maxHeartbeats 4000000 in
set_option maxRecDepth 100000 in
theorem c_X9_openCases {l : Launch} {D : va_G} {cI cZ cB cO cR cJ : ClassId} {Hb : Heap} {K : kTx} {lv : Nat → Prop} {ad : Nat → Nat} {ce0 : Nat → va_E} (s : Nat → Int32) (r : Nat → Nat → Int32) (hlv : kL lv s)  (h0 : 0 ≤ (s 39).toInt) (h1 : (s 39).toInt ≤ 60) : kMet l D cI cZ cB cO cR cJ Hb K lv ad ce0 yX9_openCases wsX9_openCases 3 64 [.ref (ad 100)] s r (some (.int (opN r (s 39).toNatClampNeg))) s r := by
  refine Met.ofW (cc := cX9_openCases) (maxL := 3) (ret := (some .int)) (by decide) rfl ?_
  intro p0 e0 s0 m0 args below meth c0 s₁ B hml hv
  obtain ⟨rfl, hG, hK, hE⟩ := hv
  have hx := B.exec
  have hb := B.bytes
  have hr := B.returns
  have hts := atoms_spec (ws := wsX9_openCases) B.pre
  have hown : s0.vm.findClass RX9 = some m0.cls := findClass_of_methodNamed B.named
  have hlocks := B.notSynchronized
  have S : kX p0 m0 c0 cX9_openCases 3 s0 _ wsX9_openCases RX9 D (tyL cI cZ cB cO cR cJ) Hb K := ⟨⟨hx, hb, hml, hown, hts⟩, hK, hE⟩
  have hL : gL Hb [] := gL.nil
  have hH := hG.2.2.2.2
  have hl := lv_entry ([.ref (ad 100)]) (n := 3) (Nat.le_of_ble_eq_true rfl)
  rw [lg_entry_eq]
  generalize (lg_sl ([.ref (ad 100)]) ++ List.replicate (3 - (lg_sl ([.ref (ad 100)])).length) Slot.unset).toArray = ls at hl ⊢
  have hl : lv_has ls 3 [(0, .ref (ad 100))] := hl
  refine lv_iconst (v := 0) hx hb dX9_openCases_0 (by decide) ?_
  refine lv_istore_n (lv' := [(1, .int 0), (0, .ref (ad 100))]) hx hb dX9_openCases_1 rfl hl (by decide) rfl (fun ls hl => ?_)
  refine lv_iconst (v := 0) hx hb dX9_openCases_2 (by decide) ?_
  refine lv_istore_n (lv' := [(2, .int 0), (1, .int 0), (0, .ref (ad 100))]) hx hb dX9_openCases_3 rfl hl (by decide) rfl (fun ls hl => ?_)
  have LP : ∀ (n : Nat) (i : Nat) (x : Int32) (a : Int32) (ex : x = nI i) (hi : i ≤ (s 39).toNatClampNeg) (hn : (s 39).toNatClampNeg + 1 ≤ i + n) (ha : a = opN r i), ∀ (H : Heap) (locs : List Loc), gW D Hb lv ad (kJ ce0 ad K.2.2.1 cI cB cO cR s r) H → gL Hb locs → ∀ (ls : Array Slot), lv_has ls 3 [(0, .ref (ad 100)), (1, .int a), (2, .int x)] → W p0 l e0 (headSpec wsX9_openCases { frames := 3, cells := 0, slots := 0, locals := 64 }).room s0 m0 ([.ref (ad 100)] : List Value).toArray below meth c0 H locs 0 0 (MQ below (gQ D Hb lv ad (some (.int (opN r (s 39).toNatClampNeg))) (kJ ce0 ad K.2.2.1 cI cB cO cR s r)) ([.ref (ad 100)] : List Value).toArray s0 0 0 (gA Hb)) (F0 m0 4 ls []) := by
    intro n
    induction n with
    | zero => intro i x a ex hi hn ha; exact absurd hn (by omega)
    | succ n ih =>
      intro i x a ex hi hn ha H locs hG hL ls hl
      have hbd : (s 39).toNatClampNeg ≤ 60 := t_ixl h0 h1; have hii : Int32.toNatClampNeg x = i := by { rw [ex]; exact ix_nI (by omega) }
      refine lv_iload_n hx hb dX9_openCases_4 rfl (lv_at hl 2 rfl) ?_
      refine lv_aload_n hx hb dX9_openCases_5 rfl (lv_at hl 0 rfl) ?_
      refine k_ga (C := RX9) (T := TX9) (N := 14) (ci := 10) (v := .ref (ad 108)) S hG (fun w h => List.mem_cons_of_mem _ (List.mem_append_left _ (List.mem_append_left _ (List.mem_append_right _ h)))) 100 (hlv.f (by decide) (by decide)) rfl rfl 7 (by decide) rfl (hts (.fieldLink RX9 50 "SwarmLine" "cases" "Ljava/util/ArrayList;") (by decide +kernel)) rfl dX9_openCases_6 ?_
      refine k_callV (n := 0) (As := []) (rest := [.int x]) (st1 := .int (s 39) :: [.int x]) (k := 108) (ci := 0) S hG hL (hlv.f (by decide) (by decide)) rfl rfl (c_size3 s r hlv   ) gX9_openCases_Jx4a65c_size_8abf5 rfl ⟨rfl, rfl⟩ (by decide +kernel) ⟨Nat.le_of_ble_eq_true rfl, Nat.le_of_ble_eq_true rfl⟩ rfl hl.1 rfl (Nat.le_of_ble_eq_true rfl) dX9_openCases_9 ⟨Nat.zero_le _, Nat.zero_le _⟩ (rfl) (fun H locs hG hL => ?_)
      refine lv_icmp_ge (tgt := 41) hx hb dX9_openCases_12 (by decide) (fun c12 => ?_) (fun c12 => ?_)
      ·
        have hEq := cl_ge h0 hi (ex ▸ c12)
        refine lv_iload_n hx hb dX9_openCases_41 rfl (lv_at hl 1 rfl) ?_
        exact g_iret S.1 hr hlocks hG hL (congrArg (fun z => some (Value.int z)) (by rw [ha, hEq])) (congr (congrArg (kJ ce0 ad K.2.2.1 cI cB cO cR) (by rfl)) (by rfl)) dX9_openCases_42
      ·
        have hlt := cl_lt h0 hi (ex ▸ c12)
        refine lv_aload_n hx hb dX9_openCases_15 rfl (lv_at hl 0 rfl) ?_
        refine k_ga (C := RX9) (T := TX9) (N := 14) (ci := 10) (v := .ref (ad 108)) S hG (fun w h => List.mem_cons_of_mem _ (List.mem_append_left _ (List.mem_append_left _ (List.mem_append_right _ h)))) 100 (hlv.f (by decide) (by decide)) rfl rfl 7 (by decide) rfl (hts (.fieldLink RX9 50 "SwarmLine" "cases" "Ljava/util/ArrayList;") (by decide +kernel)) rfl dX9_openCases_16 ?_
        refine lv_iload_n hx hb dX9_openCases_19 rfl (lv_at hl 2 rfl) ?_
        refine k_callV (n := 1) (As := [.int x]) (rest := []) (st1 := .ref (ad (4000 + i)) :: []) (k := 108) (ci := 0) S hG hL (hlv.f (by decide) (by decide)) rfl rfl (c_get3 s r hlv  x (g_x0 ex (by omega)) (g_x1 ex hlt (by omega) h0) (h1)) gX9_openCases_Jx4a65c_get_915e3 rfl ⟨rfl, rfl⟩ (by decide +kernel) ⟨Nat.le_of_ble_eq_true rfl, Nat.le_of_ble_eq_true rfl⟩ rfl hl.1 rfl (Nat.le_of_ble_eq_true rfl) dX9_openCases_20 ⟨Nat.zero_le _, Nat.zero_le _⟩ (by rw [hii]; rfl) (fun H locs hG hL => ?_)
        refine k_cast (C := RX1) (T := TX1) (N := 11) (ci := 2) S hG (4000 + i) (hlv.ca hlt) (kJ_ca (by omega)) rfl (hts (.classLink RX9 209 "SwarmLine$Case") (by decide +kernel)) dX9_openCases_23 ?_
        refine k_giN (C := RX1) (T := TX1) (N := 11) (ci := 2) (v := r 41 i) S hG (fun w h => List.mem_cons_of_mem _ (List.mem_append_left _ (List.mem_append_right _ h))) (4000 + i) (hlv.ca hlt) (kJ_ca (by omega)) rfl 3 (by decide) rfl (by decide +kernel) rfl (rfl) dX9_openCases_26 ?_
        refine lv_if_ne (tgt := 35) hx hb dX9_openCases_29 (by decide) (fun c29 => ?_) (fun c29 => ?_)
        ·
          refine lv_iinc (v := x + 1) (lv' := [(2, .int (x + 1)), (0, .ref (ad 100)), (1, .int a)]) hx hb dX9_openCases_35 hl (k := 2) rfl (by rfl) (by decide) rfl (fun ls hl => ?_)
          refine lv_goto (tgt := 4) hx hb dX9_openCases_38 (by decide) ?_
          exact ih  (i + 1) (x + 1) a (by rw [ex]; exact nI_1 i) (hlt) (by omega) (by rw [ha]; simp only [opN, eq_false c12, eq_false c29, ↓reduceIte, Int32.add_zero]) _ _ hG hL _ (lv_sub hl [1, 2, 0] rfl)
        ·
          refine lv_iinc (v := a + 1) (lv' := [(1, .int (a + 1)), (0, .ref (ad 100)), (2, .int x)]) hx hb dX9_openCases_32 hl (k := 1) rfl (by rfl) (by decide) rfl (fun ls hl => ?_)
          refine lv_iinc (v := x + 1) (lv' := [(2, .int (x + 1)), (1, .int (a + 1)), (0, .ref (ad 100))]) hx hb dX9_openCases_35 hl (k := 2) rfl (by rfl) (by decide) rfl (fun ls hl => ?_)
          refine lv_goto (tgt := 4) hx hb dX9_openCases_38 (by decide) ?_
          exact ih  (i + 1) (x + 1) (a + 1) (by rw [ex]; exact nI_1 i) (hlt) (by omega) (by rw [ha]; simp only [opN, eq_false c12, eq_true c29, ↓reduceIte, Int32.add_zero]) _ _ hG hL _ (lv_sub hl [2, 1, 0] rfl)
  exact LP ((s 39).toNatClampNeg + 1) 0 0 0 (rfl) (Nat.zero_le _) (by omega) (rfl) _ _ hG hL _ (lv_sub hl [2, 1, 0] rfl)

set_option maxHeartbeats 4000000 in
set_option maxRecDepth 100000 in
theorem c_X9_allBees {l : Launch} {D : va_G} {cI cZ cB cO cR cJ : ClassId} {Hb : Heap} {K : kTx} {lv : Nat → Prop} {ad : Nat → Nat} {ce0 : Nat → va_E} (s : Nat → Int32) (r : Nat → Nat → Int32) (hlv : kL lv s)  (h0 : 0 ≤ (s 6).toInt) (h1 : (s 6).toInt ≤ 60) (h02 : 0 ≤ (s 14).toInt) (h12 : (s 14).toInt ≤ 60) : kMet l D cI cZ cB cO cR cJ Hb K lv ad ce0 yX9_allBees wsX9_allBees 3 64 [.ref (ad 100)] s r (some (.int (kbS r (hbN r (s 6).toNatClampNeg) (s 14).toNatClampNeg))) s r := by
  refine Met.ofW (cc := cX9_allBees) (maxL := 3) (ret := (some .int)) (by decide) rfl ?_
  intro p0 e0 s0 m0 args below meth c0 s₁ B hml hv
  obtain ⟨rfl, hG, hK, hE⟩ := hv
  have hx := B.exec
  have hb := B.bytes
  have hr := B.returns
  have hts := atoms_spec (ws := wsX9_allBees) B.pre
  have hown : s0.vm.findClass RX9 = some m0.cls := findClass_of_methodNamed B.named
  have hlocks := B.notSynchronized
  have S : kX p0 m0 c0 cX9_allBees 3 s0 _ wsX9_allBees RX9 D (tyL cI cZ cB cO cR cJ) Hb K := ⟨⟨hx, hb, hml, hown, hts⟩, hK, hE⟩
  have hL : gL Hb [] := gL.nil
  have hH := hG.2.2.2.2
  have hl := lv_entry ([.ref (ad 100)]) (n := 3) (Nat.le_of_ble_eq_true rfl)
  rw [lg_entry_eq]
  generalize (lg_sl ([.ref (ad 100)]) ++ List.replicate (3 - (lg_sl ([.ref (ad 100)])).length) Slot.unset).toArray = ls at hl ⊢
  have hl : lv_has ls 3 [(0, .ref (ad 100))] := hl
  refine lv_iconst (v := 0) hx hb dX9_allBees_0 (by decide) ?_
  refine lv_istore_n (lv' := [(1, .int 0), (0, .ref (ad 100))]) hx hb dX9_allBees_1 rfl hl (by decide) rfl (fun ls hl => ?_)
  refine lv_iconst (v := 0) hx hb dX9_allBees_2 (by decide) ?_
  refine lv_istore_n (lv' := [(2, .int 0), (1, .int 0), (0, .ref (ad 100))]) hx hb dX9_allBees_3 rfl hl (by decide) rfl (fun ls hl => ?_)
  have LP : ∀ (n : Nat) (i : Nat) (x : Int32) (a : Int32) (ex : x = nI i) (hi : i ≤ (s 6).toNatClampNeg) (hn : (s 6).toNatClampNeg + 1 ≤ i + n) (ha : a = hbN r i), ∀ (H : Heap) (locs : List Loc), gW D Hb lv ad (kJ ce0 ad K.2.2.1 cI cB cO cR s r) H → gL Hb locs → ∀ (ls : Array Slot), lv_has ls 3 [(0, .ref (ad 100)), (1, .int a), (2, .int x)] → W p0 l e0 (headSpec wsX9_allBees { frames := 3, cells := 0, slots := 0, locals := 64 }).room s0 m0 ([.ref (ad 100)] : List Value).toArray below meth c0 H locs 0 0 (MQ below (gQ D Hb lv ad (some (.int (kbS r (hbN r (s 6).toNatClampNeg) (s 14).toNatClampNeg))) (kJ ce0 ad K.2.2.1 cI cB cO cR s r)) ([.ref (ad 100)] : List Value).toArray s0 0 0 (gA Hb)) (F0 m0 4 ls []) := by
    intro n
    induction n with
    | zero => intro i x a ex hi hn ha; exact absurd hn (by omega)
    | succ n ih =>
      intro i x a ex hi hn ha H locs hG hL ls hl
      have hbd : (s 6).toNatClampNeg ≤ 60 := t_ixl h0 h1; have hii : Int32.toNatClampNeg x = i := by { rw [ex]; exact ix_nI (by omega) }
      refine lv_iload_n hx hb dX9_allBees_4 rfl (lv_at hl 2 rfl) ?_
      refine lv_aload_n hx hb dX9_allBees_5 rfl (lv_at hl 0 rfl) ?_
      refine k_ga (C := RX9) (T := TX9) (N := 14) (ci := 10) (v := .ref (ad 105)) S hG (fun w h => List.mem_cons_of_mem _ (List.mem_append_left _ (List.mem_append_left _ (List.mem_append_left _ (List.mem_append_right _ h))))) 100 (hlv.f (by decide) (by decide)) rfl rfl 4 (by decide) rfl (hts (.fieldLink RX9 40 "SwarmLine" "hives" "Ljava/util/ArrayList;") (by decide +kernel)) rfl dX9_allBees_6 ?_
      refine k_callV (n := 0) (As := []) (rest := [.int x]) (st1 := .int (s 6) :: [.int x]) (k := 105) (ci := 0) S hG hL (hlv.f (by decide) (by decide)) rfl rfl (c_size0 s r hlv   ) gX9_allBees_Jx4a65c_size_8abf5 rfl ⟨rfl, rfl⟩ (by decide +kernel) ⟨Nat.le_of_ble_eq_true rfl, Nat.le_of_ble_eq_true rfl⟩ rfl hl.1 rfl (Nat.le_of_ble_eq_true rfl) dX9_allBees_9 ⟨Nat.zero_le _, Nat.zero_le _⟩ (rfl) (fun H locs hG hL => ?_)
      refine lv_icmp_ge (tgt := 38) hx hb dX9_allBees_12 (by decide) (fun c12 => ?_) (fun c12 => ?_)
      ·
        have hEq := cl_ge h0 hi (ex ▸ c12)
        refine lv_iconst (v := 0) hx hb dX9_allBees_38 (by decide) ?_
        refine lv_istore_n (lv' := [(2, .int 0), (0, .ref (ad 100)), (1, .int a)]) hx hb dX9_allBees_39 rfl hl (by decide) rfl (fun ls hl => ?_)
        have LP2 : ∀ (n2 : Nat) (i2 : Nat) (x2 : Int32) (a2 : Int32) (ex2 : x2 = nI i2) (hi2 : i2 ≤ (s 14).toNatClampNeg) (hn2 : (s 14).toNatClampNeg + 1 ≤ i2 + n2) (ha2 : a2 = kbS r (hbN r (s 6).toNatClampNeg) i2), ∀ (H : Heap) (locs : List Loc), gW D Hb lv ad (kJ ce0 ad K.2.2.1 cI cB cO cR s r) H → gL Hb locs → ∀ (ls : Array Slot), lv_has ls 3 [(0, .ref (ad 100)), (1, .int a2), (2, .int x2)] → W p0 l e0 (headSpec wsX9_allBees { frames := 3, cells := 0, slots := 0, locals := 64 }).room s0 m0 ([.ref (ad 100)] : List Value).toArray below meth c0 H locs 0 0 (MQ below (gQ D Hb lv ad (some (.int (kbS r (hbN r (s 6).toNatClampNeg) (s 14).toNatClampNeg))) (kJ ce0 ad K.2.2.1 cI cB cO cR s r)) ([.ref (ad 100)] : List Value).toArray s0 0 0 (gA Hb)) (F0 m0 40 ls []) := by
          intro n2
          induction n2 with
          | zero => intro i2 x2 a2 ex2 hi2 hn2 ha2; exact absurd hn2 (by omega)
          | succ n2 ih2 =>
            intro i2 x2 a2 ex2 hi2 hn2 ha2 H locs hG hL ls hl
            have hbd2 : (s 14).toNatClampNeg ≤ 60 := t_ixl h02 h12; have hii2 : Int32.toNatClampNeg x2 = i2 := by { rw [ex2]; exact ix_nI (by omega) }
            refine lv_iload_n hx hb dX9_allBees_40 rfl (lv_at hl 2 rfl) ?_
            refine lv_aload_n hx hb dX9_allBees_41 rfl (lv_at hl 0 rfl) ?_
            refine k_ga (C := RX9) (T := TX9) (N := 14) (ci := 10) (v := .ref (ad 106)) S hG (fun w h => List.mem_cons_of_mem _ (List.mem_append_left _ (List.mem_append_left _ (List.mem_append_left _ (List.mem_append_right _ h))))) 100 (hlv.f (by decide) (by decide)) rfl rfl 5 (by decide) rfl (hts (.fieldLink RX9 44 "SwarmLine" "swarms" "Ljava/util/ArrayList;") (by decide +kernel)) rfl dX9_allBees_42 ?_
            refine k_callV (n := 0) (As := []) (rest := [.int x2]) (st1 := .int (s 14) :: [.int x2]) (k := 106) (ci := 0) S hG hL (hlv.f (by decide) (by decide)) rfl rfl (c_size1 s r hlv   ) gX9_allBees_Jx4a65c_size_8abf5 rfl ⟨rfl, rfl⟩ (by decide +kernel) ⟨Nat.le_of_ble_eq_true rfl, Nat.le_of_ble_eq_true rfl⟩ rfl hl.1 rfl (Nat.le_of_ble_eq_true rfl) dX9_allBees_45 ⟨Nat.zero_le _, Nat.zero_le _⟩ (rfl) (fun H locs hG hL => ?_)
            refine lv_icmp_ge (tgt := 92) hx hb dX9_allBees_48 (by decide) (fun c48 => ?_) (fun c48 => ?_)
            ·
              have hEq2 := cl_ge h02 hi2 (ex2 ▸ c48)
              refine lv_iload_n hx hb dX9_allBees_92 rfl (lv_at hl 1 rfl) ?_
              exact g_iret S.1 hr hlocks hG hL (congrArg (fun z => some (Value.int z)) (by rw [ha2, hEq2])) (congr (congrArg (kJ ce0 ad K.2.2.1 cI cB cO cR) (by rfl)) (by rfl)) dX9_allBees_93
            ·
              have hlt2 := cl_lt h02 hi2 (ex2 ▸ c48)
              refine lv_aload_n hx hb dX9_allBees_51 rfl (lv_at hl 0 rfl) ?_
              refine k_ga (C := RX9) (T := TX9) (N := 14) (ci := 10) (v := .ref (ad 106)) S hG (fun w h => List.mem_cons_of_mem _ (List.mem_append_left _ (List.mem_append_left _ (List.mem_append_left _ (List.mem_append_right _ h))))) 100 (hlv.f (by decide) (by decide)) rfl rfl 5 (by decide) rfl (hts (.fieldLink RX9 44 "SwarmLine" "swarms" "Ljava/util/ArrayList;") (by decide +kernel)) rfl dX9_allBees_52 ?_
              refine lv_iload_n hx hb dX9_allBees_55 rfl (lv_at hl 2 rfl) ?_
              refine k_callV (n := 1) (As := [.int x2]) (rest := []) (st1 := .ref (ad (2000 + i2)) :: []) (k := 106) (ci := 0) S hG hL (hlv.f (by decide) (by decide)) rfl rfl (c_get1 s r hlv  x2 (g_x0 ex2 (by omega)) (g_x1 ex2 hlt2 (by omega) h02) (h12)) gX9_allBees_Jx4a65c_get_915e3 rfl ⟨rfl, rfl⟩ (by decide +kernel) ⟨Nat.le_of_ble_eq_true rfl, Nat.le_of_ble_eq_true rfl⟩ rfl hl.1 rfl (Nat.le_of_ble_eq_true rfl) dX9_allBees_56 ⟨Nat.zero_le _, Nat.zero_le _⟩ (by rw [hii2]; rfl) (fun H locs hG hL => ?_)
              refine k_cast (C := RX6) (T := TX6) (N := 11) (ci := 7) S hG (2000 + i2) (hlv.sw hlt2) (kJ_sw (by omega)) rfl (hts (.classLink RX9 292 "SwarmLine$Swarm") (by decide +kernel)) dX9_allBees_59 ?_
              refine k_giN (C := RX6) (T := TX6) (N := 11) (ci := 7) (v := r 15 i2) S hG (fun w h => List.mem_cons_of_mem _ (List.mem_append_left _ (List.mem_append_right _ h))) (2000 + i2) (hlv.sw hlt2) (kJ_sw (by omega)) rfl 7 (by decide) rfl (by decide +kernel) rfl (rfl) dX9_allBees_62 ?_
              refine lv_iconst (v := 2) hx hb dX9_allBees_65 (by decide) ?_
              refine lv_icmp_eq (tgt := 86) hx hb dX9_allBees_66 (by decide) (fun c66 => ?_) (fun c66 => ?_)
              ·
                refine lv_iinc (v := x2 + 1) (lv' := [(2, .int (x2 + 1)), (0, .ref (ad 100)), (1, .int a2)]) hx hb dX9_allBees_86 hl (k := 2) rfl (by rfl) (by decide) rfl (fun ls hl => ?_)
                refine lv_goto (tgt := 40) hx hb dX9_allBees_89 (by decide) ?_
                exact ih2  (i2 + 1) (x2 + 1) a2 (by rw [ex2]; exact nI_1 i2) (hlt2) (by omega) (by rw [ha2]; simp only [kbS, eq_true c12, eq_false c48, eq_true c66, ↓reduceIte]) _ _ hG hL _ (lv_sub hl [1, 2, 0] rfl)
              ·
                refine lv_iload_n hx hb dX9_allBees_69 rfl (lv_at hl 1 rfl) ?_
                refine lv_aload_n hx hb dX9_allBees_70 rfl (lv_at hl 0 rfl) ?_
                refine k_ga (C := RX9) (T := TX9) (N := 14) (ci := 10) (v := .ref (ad 106)) S hG (fun w h => List.mem_cons_of_mem _ (List.mem_append_left _ (List.mem_append_left _ (List.mem_append_left _ (List.mem_append_right _ h))))) 100 (hlv.f (by decide) (by decide)) rfl rfl 5 (by decide) rfl (hts (.fieldLink RX9 44 "SwarmLine" "swarms" "Ljava/util/ArrayList;") (by decide +kernel)) rfl dX9_allBees_71 ?_
                refine lv_iload_n hx hb dX9_allBees_74 rfl (lv_at hl 2 rfl) ?_
                refine k_callV (n := 1) (As := [.int x2]) (rest := [.int a2]) (st1 := .ref (ad (2000 + i2)) :: [.int a2]) (k := 106) (ci := 0) S hG hL (hlv.f (by decide) (by decide)) rfl rfl (c_get1 s r hlv  x2 (g_x0 ex2 (by omega)) (g_x1 ex2 hlt2 (by omega) h02) (h12)) gX9_allBees_Jx4a65c_get_915e3 rfl ⟨rfl, rfl⟩ (by decide +kernel) ⟨Nat.le_of_ble_eq_true rfl, Nat.le_of_ble_eq_true rfl⟩ rfl hl.1 rfl (Nat.le_of_ble_eq_true rfl) dX9_allBees_75 ⟨Nat.zero_le _, Nat.zero_le _⟩ (by rw [hii2]; rfl) (fun H locs hG hL => ?_)
                refine k_cast (C := RX6) (T := TX6) (N := 11) (ci := 7) S hG (2000 + i2) (hlv.sw hlt2) (kJ_sw (by omega)) rfl (hts (.classLink RX9 292 "SwarmLine$Swarm") (by decide +kernel)) dX9_allBees_78 ?_
                refine k_giN (C := RX6) (T := TX6) (N := 11) (ci := 7) (v := r 17 i2) S hG (fun w h => List.mem_cons_of_mem _ (List.mem_append_left _ (List.mem_append_right _ h))) (2000 + i2) (hlv.sw hlt2) (kJ_sw (by omega)) rfl 1 (by decide) rfl (by decide +kernel) rfl (rfl) dX9_allBees_81 ?_
                refine lv_iadd hx hb dX9_allBees_84 ?_
                refine lv_istore_n (lv' := [(1, .int (a2 + (r 17 i2))), (0, .ref (ad 100)), (2, .int x2)]) hx hb dX9_allBees_85 rfl hl (by decide) rfl (fun ls hl => ?_)
                refine lv_iinc (v := x2 + 1) (lv' := [(2, .int (x2 + 1)), (1, .int (a2 + (r 17 i2))), (0, .ref (ad 100))]) hx hb dX9_allBees_86 hl (k := 2) rfl (by rfl) (by decide) rfl (fun ls hl => ?_)
                refine lv_goto (tgt := 40) hx hb dX9_allBees_89 (by decide) ?_
                exact ih2  (i2 + 1) (x2 + 1) (a2 + (r 17 i2)) (by rw [ex2]; exact nI_1 i2) (hlt2) (by omega) (by rw [ha2]; simp only [kbS, eq_true c12, eq_false c48, eq_false c66, ↓reduceIte]) _ _ hG hL _ (lv_sub hl [2, 1, 0] rfl)
        exact LP2 ((s 14).toNatClampNeg + 1) 0 0 a (rfl) (Nat.zero_le _) (by omega) (by rw [ha, hEq]; rfl) _ _ hG hL _ (lv_sub hl [1, 2, 0] rfl)
      ·
        have hlt := cl_lt h0 hi (ex ▸ c12)
        refine lv_iload_n hx hb dX9_allBees_15 rfl (lv_at hl 1 rfl) ?_
        refine lv_aload_n hx hb dX9_allBees_16 rfl (lv_at hl 0 rfl) ?_
        refine k_ga (C := RX9) (T := TX9) (N := 14) (ci := 10) (v := .ref (ad 105)) S hG (fun w h => List.mem_cons_of_mem _ (List.mem_append_left _ (List.mem_append_left _ (List.mem_append_left _ (List.mem_append_right _ h))))) 100 (hlv.f (by decide) (by decide)) rfl rfl 4 (by decide) rfl (hts (.fieldLink RX9 40 "SwarmLine" "hives" "Ljava/util/ArrayList;") (by decide +kernel)) rfl dX9_allBees_17 ?_
        refine lv_iload_n hx hb dX9_allBees_20 rfl (lv_at hl 2 rfl) ?_
        refine k_callV (n := 1) (As := [.int x]) (rest := [.int a]) (st1 := .ref (ad (1000 + i)) :: [.int a]) (k := 105) (ci := 0) S hG hL (hlv.f (by decide) (by decide)) rfl rfl (c_get0 s r hlv  x (g_x0 ex (by omega)) (g_x1 ex hlt (by omega) h0) (h1)) gX9_allBees_Jx4a65c_get_915e3 rfl ⟨rfl, rfl⟩ (by decide +kernel) ⟨Nat.le_of_ble_eq_true rfl, Nat.le_of_ble_eq_true rfl⟩ rfl hl.1 rfl (Nat.le_of_ble_eq_true rfl) dX9_allBees_21 ⟨Nat.zero_le _, Nat.zero_le _⟩ (by rw [hii]; rfl) (fun H locs hG hL => ?_)
        refine k_cast (C := RX3) (T := TX3) (N := 7) (ci := 4) S hG (1000 + i) (hlv.hv hlt) (kJ_hv (by omega)) rfl (hts (.classLink RX9 151 "SwarmLine$Hive") (by decide +kernel)) dX9_allBees_24 ?_
        refine k_giN (C := RX3) (T := TX3) (N := 7) (ci := 4) (v := r 9 i) S hG (fun w h => List.mem_cons_of_mem _ (List.mem_append_left _ (List.mem_append_left _ (List.mem_append_right _ h)))) (1000 + i) (hlv.hv hlt) (kJ_hv (by omega)) rfl 4 (by decide) rfl (by decide +kernel) rfl (rfl) dX9_allBees_27 ?_
        refine lv_iadd hx hb dX9_allBees_30 ?_
        refine lv_istore_n (lv' := [(1, .int (a + (r 9 i))), (0, .ref (ad 100)), (2, .int x)]) hx hb dX9_allBees_31 rfl hl (by decide) rfl (fun ls hl => ?_)
        refine lv_iinc (v := x + 1) (lv' := [(2, .int (x + 1)), (1, .int (a + (r 9 i))), (0, .ref (ad 100))]) hx hb dX9_allBees_32 hl (k := 2) rfl (by rfl) (by decide) rfl (fun ls hl => ?_)
        refine lv_goto (tgt := 4) hx hb dX9_allBees_35 (by decide) ?_
        exact ih  (i + 1) (x + 1) (a + (r 9 i)) (by rw [ex]; exact nI_1 i) (hlt) (by omega) (by rw [ha]; rfl) _ _ hG hL _ (lv_sub hl [2, 1, 0] rfl)
  exact LP ((s 6).toNatClampNeg + 1) 0 0 0 (rfl) (Nat.zero_le _) (by omega) (rfl) _ _ hG hL _ (lv_sub hl [2, 1, 0] rfl)

set_option maxHeartbeats 4000000 in
set_option maxRecDepth 100000 in
theorem c_X9_count {l : Launch} {D : va_G} {cI cZ cB cO cR cJ : ClassId} {Hb : Heap} {K : kTx} {lv : Nat → Prop} {ad : Nat → Nat} {ce0 : Nat → va_E} (s : Nat → Int32) (r : Nat → Nat → Int32) (hlv : kL lv s) (w : Int32) (h0 : 0 ≤ (s 6).toInt) (h1 : (s 6).toInt ≤ 60) (h02 : 0 ≤ (s 14).toInt) (h12 : (s 14).toInt ≤ 60) (h03 : 0 ≤ (s 39).toInt) (h13 : (s 39).toInt ≤ 60) : kMet l D cI cZ cB cO cR cJ Hb K lv ad ce0 yX9_count wsX9_count 4 87 [.ref (ad 100), .int w] s r (some (.int (vKc w s r))) s r := by
  refine Met.ofW (cc := cX9_count) (maxL := 2) (ret := (some .int)) (by decide) rfl ?_
  intro p0 e0 s0 m0 args below meth c0 s₁ B hml hv
  obtain ⟨rfl, hG, hK, hE⟩ := hv
  have hx := B.exec
  have hb := B.bytes
  have hr := B.returns
  have hts := atoms_spec (ws := wsX9_count) B.pre
  have hown : s0.vm.findClass RX9 = some m0.cls := findClass_of_methodNamed B.named
  have hlocks := B.notSynchronized
  have S : kX p0 m0 c0 cX9_count 2 s0 _ wsX9_count RX9 D (tyL cI cZ cB cO cR cJ) Hb K := ⟨⟨hx, hb, hml, hown, hts⟩, hK, hE⟩
  have hL : gL Hb [] := gL.nil
  have hH := hG.2.2.2.2
  have hl := lv_entry ([.ref (ad 100), .int w]) (n := 2) (Nat.le_of_ble_eq_true rfl)
  rw [lg_entry_eq]
  generalize (lg_sl ([.ref (ad 100), .int w]) ++ List.replicate (2 - (lg_sl ([.ref (ad 100), .int w])).length) Slot.unset).toArray = ls at hl ⊢
  have hl : lv_has ls 2 [(0, .ref (ad 100)), (1, .int w)] := hl
  refine lv_iload_n hx hb dX9_count_0 rfl (lv_at hl 1 rfl) ?_
  by_cases csw : w.toInt < 0 ∨ 11 < w.toInt
  ·
    refine lv_tableOut (tgt := 142) hx hb dX9_count_1 csw (by decide) ?_
    refine lv_iconst (v := (-1)) hx hb dX9_count_142 (by decide) ?_
    exact g_iret S.1 hr hlocks hG hL (congrArg (fun z => some (Value.int z)) (by rw [vKc_out csw])) (congr (congrArg (kJ ce0 ad K.2.2.1 cI cB cO cR) (by rfl)) (by rfl)) dX9_count_143
  ·
    have csx : w = 0 ∨ w = 1 ∨ w = 2 ∨ w = 3 ∨ w = 4 ∨ w = 5 ∨ w = 6 ∨ w = 7 ∨ w = 8 ∨ w = 9 ∨ w = 10 ∨ w = 11 := by simp only [t_eq]; simp; omega
    rcases csx with csx | csx | csx | csx | csx | csx | csx | csx | csx | csx | csx | csx
    ·
      refine lv_tableIn (tgt := 64) (off := 63) hx hb dX9_count_1 (by rw [csx]; decide) (by rw [csx]; decide) (by rw [csx]; rfl) (by decide) ?_
      refine lv_aload_n hx hb dX9_count_64 rfl (lv_at hl 0 rfl) ?_
      refine k_gi (C := RX9) (T := TX9) (N := 14) (ci := 10) (v := s 1) S hG (fun w h => List.mem_cons_of_mem _ (List.mem_append_left _ (List.mem_append_left _ (List.mem_append_left _ (List.mem_append_left _ (List.mem_append_left _ (List.mem_append_right _ h))))))) 100 (hlv.f (by decide) (by decide)) rfl rfl 12 (by decide) rfl (hts (.fieldLink RX9 71 "SwarmLine" "now" "I") (by decide +kernel)) rfl (rfl) dX9_count_65 ?_
      exact g_iret S.1 hr hlocks hG hL (congrArg (fun z => some (Value.int z)) (by rw [csx]; rfl)) (congr (congrArg (kJ ce0 ad K.2.2.1 cI cB cO cR) (by rfl)) (by rfl)) dX9_count_68
    ·
      refine lv_tableIn (tgt := 69) (off := 68) hx hb dX9_count_1 (by rw [csx]; decide) (by rw [csx]; decide) (by rw [csx]; rfl) (by decide) ?_
      refine lv_aload_n hx hb dX9_count_69 rfl (lv_at hl 0 rfl) ?_
      refine k_ga (C := RX9) (T := TX9) (N := 14) (ci := 10) (v := .ref (ad 105)) S hG (fun w h => List.mem_cons_of_mem _ (List.mem_append_left _ (List.mem_append_left _ (List.mem_append_left _ (List.mem_append_left _ (List.mem_append_left _ (List.mem_append_right _ h))))))) 100 (hlv.f (by decide) (by decide)) rfl rfl 4 (by decide) rfl (hts (.fieldLink RX9 40 "SwarmLine" "hives" "Ljava/util/ArrayList;") (by decide +kernel)) rfl dX9_count_70 ?_
      refine k_callV (n := 0) (As := []) (rest := []) (st1 := .int (s 6) :: []) (k := 105) (ci := 0) S hG hL (hlv.f (by decide) (by decide)) rfl rfl (c_size0 s r hlv   ) gX9_count_Jx4a65c_size_8abf5 rfl ⟨rfl, rfl⟩ (by decide +kernel) ⟨Nat.le_of_ble_eq_true rfl, Nat.le_of_ble_eq_true rfl⟩ rfl hl.1 rfl (Nat.le_of_ble_eq_true rfl) dX9_count_73 ⟨Nat.zero_le _, Nat.zero_le _⟩ (rfl) (fun H locs hG hL => ?_)
      exact g_iret S.1 hr hlocks hG hL (congrArg (fun z => some (Value.int z)) (by rw [csx]; rfl)) (congr (congrArg (kJ ce0 ad K.2.2.1 cI cB cO cR) (by rfl)) (by rfl)) dX9_count_76
    ·
      refine lv_tableIn (tgt := 77) (off := 76) hx hb dX9_count_1 (by rw [csx]; decide) (by rw [csx]; decide) (by rw [csx]; rfl) (by decide) ?_
      refine lv_aload_n hx hb dX9_count_77 rfl (lv_at hl 0 rfl) ?_
      refine k_ga (C := RX9) (T := TX9) (N := 14) (ci := 10) (v := .ref (ad 106)) S hG (fun w h => List.mem_cons_of_mem _ (List.mem_append_left _ (List.mem_append_left _ (List.mem_append_left _ (List.mem_append_left _ (List.mem_append_left _ (List.mem_append_right _ h))))))) 100 (hlv.f (by decide) (by decide)) rfl rfl 5 (by decide) rfl (hts (.fieldLink RX9 44 "SwarmLine" "swarms" "Ljava/util/ArrayList;") (by decide +kernel)) rfl dX9_count_78 ?_
      refine k_callV (n := 0) (As := []) (rest := []) (st1 := .int (s 14) :: []) (k := 106) (ci := 0) S hG hL (hlv.f (by decide) (by decide)) rfl rfl (c_size1 s r hlv   ) gX9_count_Jx4a65c_size_8abf5 rfl ⟨rfl, rfl⟩ (by decide +kernel) ⟨Nat.le_of_ble_eq_true rfl, Nat.le_of_ble_eq_true rfl⟩ rfl hl.1 rfl (Nat.le_of_ble_eq_true rfl) dX9_count_81 ⟨Nat.zero_le _, Nat.zero_le _⟩ (rfl) (fun H locs hG hL => ?_)
      exact g_iret S.1 hr hlocks hG hL (congrArg (fun z => some (Value.int z)) (by rw [csx]; rfl)) (congr (congrArg (kJ ce0 ad K.2.2.1 cI cB cO cR) (by rfl)) (by rfl)) dX9_count_84
    ·
      refine lv_tableIn (tgt := 85) (off := 84) hx hb dX9_count_1 (by rw [csx]; decide) (by rw [csx]; decide) (by rw [csx]; rfl) (by decide) ?_
      refine lv_aload_n hx hb dX9_count_85 rfl (lv_at hl 0 rfl) ?_
      refine k_ga (C := RX9) (T := TX9) (N := 14) (ci := 10) (v := .ref (ad 107)) S hG (fun w h => List.mem_cons_of_mem _ (List.mem_append_left _ (List.mem_append_left _ (List.mem_append_left _ (List.mem_append_left _ (List.mem_append_left _ (List.mem_append_right _ h))))))) 100 (hlv.f (by decide) (by decide)) rfl rfl 6 (by decide) rfl (hts (.fieldLink RX9 47 "SwarmLine" "keepers" "Ljava/util/ArrayList;") (by decide +kernel)) rfl dX9_count_86 ?_
      refine k_callV (n := 0) (As := []) (rest := []) (st1 := .int (s 26) :: []) (k := 107) (ci := 0) S hG hL (hlv.f (by decide) (by decide)) rfl rfl (c_size2 s r hlv   ) gX9_count_Jx4a65c_size_8abf5 rfl ⟨rfl, rfl⟩ (by decide +kernel) ⟨Nat.le_of_ble_eq_true rfl, Nat.le_of_ble_eq_true rfl⟩ rfl hl.1 rfl (Nat.le_of_ble_eq_true rfl) dX9_count_89 ⟨Nat.zero_le _, Nat.zero_le _⟩ (rfl) (fun H locs hG hL => ?_)
      exact g_iret S.1 hr hlocks hG hL (congrArg (fun z => some (Value.int z)) (by rw [csx]; rfl)) (congr (congrArg (kJ ce0 ad K.2.2.1 cI cB cO cR) (by rfl)) (by rfl)) dX9_count_92
    ·
      refine lv_tableIn (tgt := 93) (off := 92) hx hb dX9_count_1 (by rw [csx]; decide) (by rw [csx]; decide) (by rw [csx]; rfl) (by decide) ?_
      refine lv_aload_n hx hb dX9_count_93 rfl (lv_at hl 0 rfl) ?_
      refine k_ga (C := RX9) (T := TX9) (N := 14) (ci := 10) (v := .ref (ad 108)) S hG (fun w h => List.mem_cons_of_mem _ (List.mem_append_left _ (List.mem_append_left _ (List.mem_append_left _ (List.mem_append_left _ (List.mem_append_left _ (List.mem_append_right _ h))))))) 100 (hlv.f (by decide) (by decide)) rfl rfl 7 (by decide) rfl (hts (.fieldLink RX9 50 "SwarmLine" "cases" "Ljava/util/ArrayList;") (by decide +kernel)) rfl dX9_count_94 ?_
      refine k_callV (n := 0) (As := []) (rest := []) (st1 := .int (s 39) :: []) (k := 108) (ci := 0) S hG hL (hlv.f (by decide) (by decide)) rfl rfl (c_size3 s r hlv   ) gX9_count_Jx4a65c_size_8abf5 rfl ⟨rfl, rfl⟩ (by decide +kernel) ⟨Nat.le_of_ble_eq_true rfl, Nat.le_of_ble_eq_true rfl⟩ rfl hl.1 rfl (Nat.le_of_ble_eq_true rfl) dX9_count_97 ⟨Nat.zero_le _, Nat.zero_le _⟩ (rfl) (fun H locs hG hL => ?_)
      exact g_iret S.1 hr hlocks hG hL (congrArg (fun z => some (Value.int z)) (by rw [csx]; rfl)) (congr (congrArg (kJ ce0 ad K.2.2.1 cI cB cO cR) (by rfl)) (by rfl)) dX9_count_100
    ·
      refine lv_tableIn (tgt := 101) (off := 100) hx hb dX9_count_1 (by rw [csx]; decide) (by rw [csx]; decide) (by rw [csx]; rfl) (by decide) ?_
      refine lv_aload_n hx hb dX9_count_101 rfl (lv_at hl 0 rfl) ?_
      refine k_gi (C := RX9) (T := TX9) (N := 14) (ci := 10) (v := s 40) S hG (fun w h => List.mem_cons_of_mem _ (List.mem_append_left _ (List.mem_append_left _ (List.mem_append_left _ (List.mem_append_left _ (List.mem_append_left _ (List.mem_append_right _ h))))))) 100 (hlv.f (by decide) (by decide)) rfl rfl 11 (by decide) rfl (hts (.fieldLink RX9 67 "SwarmLine" "calls" "I") (by decide +kernel)) rfl (rfl) dX9_count_102 ?_
      exact g_iret S.1 hr hlocks hG hL (congrArg (fun z => some (Value.int z)) (by rw [csx]; rfl)) (congr (congrArg (kJ ce0 ad K.2.2.1 cI cB cO cR) (by rfl)) (by rfl)) dX9_count_105
    ·
      refine lv_tableIn (tgt := 106) (off := 105) hx hb dX9_count_1 (by rw [csx]; decide) (by rw [csx]; decide) (by rw [csx]; rfl) (by decide) ?_
      refine lv_aload_n hx hb dX9_count_106 rfl (lv_at hl 0 rfl) ?_
      refine k_ga (C := RX9) (T := TX9) (N := 14) (ci := 10) (v := .ref (ad 110)) S hG (fun w h => List.mem_cons_of_mem _ (List.mem_append_left _ (List.mem_append_left _ (List.mem_append_left _ (List.mem_append_left _ (List.mem_append_left _ (List.mem_append_right _ h))))))) 100 (hlv.f (by decide) (by decide)) rfl rfl 9 (by decide) rfl (hts (.fieldLink RX9 60 "SwarmLine" "turns" "LSwarmLine$Turns;") (by decide +kernel)) rfl dX9_count_107 ?_
      refine k_giN (C := RX8) (T := TX8) (N := 3) (ci := 9) (v := s 52) S hG (fun w h => List.mem_cons_of_mem _ (List.mem_append_left _ (List.mem_append_left _ (List.mem_append_left _ (List.mem_append_left _ (List.mem_append_right _ h)))))) 110 (hlv.f (by decide) (by decide)) rfl rfl 2 (by decide) rfl (by decide +kernel) rfl (rfl) dX9_count_110 ?_
      exact g_iret S.1 hr hlocks hG hL (congrArg (fun z => some (Value.int z)) (by rw [csx]; rfl)) (congr (congrArg (kJ ce0 ad K.2.2.1 cI cB cO cR) (by rfl)) (by rfl)) dX9_count_113
    ·
      refine lv_tableIn (tgt := 114) (off := 113) hx hb dX9_count_1 (by rw [csx]; decide) (by rw [csx]; decide) (by rw [csx]; rfl) (by decide) ?_
      refine lv_aload_n hx hb dX9_count_114 rfl (lv_at hl 0 rfl) ?_
      refine lv_iconst (v := 0) hx hb dX9_count_115 (by decide) ?_
      refine k_callV (n := 1) (As := [.int 0]) (rest := []) (st1 := .int (cnS r 0 (s 14).toNatClampNeg) :: []) (k := 100) (ci := 10) S hG hL (hlv.f (by decide) (by decide)) rfl rfl (c_X9_swarmsThatAre s r hlv  0 (h02) (h12)) gX9_count_X9_swarmsThatAre rfl ⟨rfl, rfl⟩ (by decide +kernel) ⟨Nat.le_of_ble_eq_true rfl, Nat.le_of_ble_eq_true rfl⟩ rfl hl.1 rfl (Nat.le_of_ble_eq_true rfl) dX9_count_116 ⟨Nat.zero_le _, Nat.zero_le _⟩ (rfl) (fun H locs hG hL => ?_)
      exact g_iret S.1 hr hlocks hG hL (congrArg (fun z => some (Value.int z)) (by rw [csx]; rfl)) (congr (congrArg (kJ ce0 ad K.2.2.1 cI cB cO cR) (by rfl)) (by rfl)) dX9_count_119
    ·
      refine lv_tableIn (tgt := 120) (off := 119) hx hb dX9_count_1 (by rw [csx]; decide) (by rw [csx]; decide) (by rw [csx]; rfl) (by decide) ?_
      refine lv_aload_n hx hb dX9_count_120 rfl (lv_at hl 0 rfl) ?_
      refine lv_iconst (v := 1) hx hb dX9_count_121 (by decide) ?_
      refine k_callV (n := 1) (As := [.int 1]) (rest := []) (st1 := .int (cnS r 1 (s 14).toNatClampNeg) :: []) (k := 100) (ci := 10) S hG hL (hlv.f (by decide) (by decide)) rfl rfl (c_X9_swarmsThatAre s r hlv  1 (h02) (h12)) gX9_count_X9_swarmsThatAre rfl ⟨rfl, rfl⟩ (by decide +kernel) ⟨Nat.le_of_ble_eq_true rfl, Nat.le_of_ble_eq_true rfl⟩ rfl hl.1 rfl (Nat.le_of_ble_eq_true rfl) dX9_count_122 ⟨Nat.zero_le _, Nat.zero_le _⟩ (rfl) (fun H locs hG hL => ?_)
      exact g_iret S.1 hr hlocks hG hL (congrArg (fun z => some (Value.int z)) (by rw [csx]; rfl)) (congr (congrArg (kJ ce0 ad K.2.2.1 cI cB cO cR) (by rfl)) (by rfl)) dX9_count_125
    ·
      refine lv_tableIn (tgt := 126) (off := 125) hx hb dX9_count_1 (by rw [csx]; decide) (by rw [csx]; decide) (by rw [csx]; rfl) (by decide) ?_
      refine lv_aload_n hx hb dX9_count_126 rfl (lv_at hl 0 rfl) ?_
      refine lv_iconst (v := 2) hx hb dX9_count_127 (by decide) ?_
      refine k_callV (n := 1) (As := [.int 2]) (rest := []) (st1 := .int (cnS r 2 (s 14).toNatClampNeg) :: []) (k := 100) (ci := 10) S hG hL (hlv.f (by decide) (by decide)) rfl rfl (c_X9_swarmsThatAre s r hlv  2 (h02) (h12)) gX9_count_X9_swarmsThatAre rfl ⟨rfl, rfl⟩ (by decide +kernel) ⟨Nat.le_of_ble_eq_true rfl, Nat.le_of_ble_eq_true rfl⟩ rfl hl.1 rfl (Nat.le_of_ble_eq_true rfl) dX9_count_128 ⟨Nat.zero_le _, Nat.zero_le _⟩ (rfl) (fun H locs hG hL => ?_)
      exact g_iret S.1 hr hlocks hG hL (congrArg (fun z => some (Value.int z)) (by rw [csx]; rfl)) (congr (congrArg (kJ ce0 ad K.2.2.1 cI cB cO cR) (by rfl)) (by rfl)) dX9_count_131
    ·
      refine lv_tableIn (tgt := 132) (off := 131) hx hb dX9_count_1 (by rw [csx]; decide) (by rw [csx]; decide) (by rw [csx]; rfl) (by decide) ?_
      refine lv_aload_n hx hb dX9_count_132 rfl (lv_at hl 0 rfl) ?_
      refine k_callV (n := 0) (As := []) (rest := []) (st1 := .int (opN r (s 39).toNatClampNeg) :: []) (k := 100) (ci := 10) S hG hL (hlv.f (by decide) (by decide)) rfl rfl (c_X9_openCases s r hlv   (h03) (h13)) gX9_count_X9_openCases rfl ⟨rfl, rfl⟩ (by decide +kernel) ⟨Nat.le_of_ble_eq_true rfl, Nat.le_of_ble_eq_true rfl⟩ rfl hl.1 rfl (Nat.le_of_ble_eq_true rfl) dX9_count_133 ⟨Nat.zero_le _, Nat.zero_le _⟩ (rfl) (fun H locs hG hL => ?_)
      exact g_iret S.1 hr hlocks hG hL (congrArg (fun z => some (Value.int z)) (by rw [csx]; rfl)) (congr (congrArg (kJ ce0 ad K.2.2.1 cI cB cO cR) (by rfl)) (by rfl)) dX9_count_136
    ·
      refine lv_tableIn (tgt := 137) (off := 136) hx hb dX9_count_1 (by rw [csx]; decide) (by rw [csx]; decide) (by rw [csx]; rfl) (by decide) ?_
      refine lv_aload_n hx hb dX9_count_137 rfl (lv_at hl 0 rfl) ?_
      refine k_callV (n := 0) (As := []) (rest := []) (st1 := .int (kbS r (hbN r (s 6).toNatClampNeg) (s 14).toNatClampNeg) :: []) (k := 100) (ci := 10) S hG hL (hlv.f (by decide) (by decide)) rfl rfl (c_X9_allBees s r hlv   (h0) (h1) (h02) (h12)) gX9_count_X9_allBees rfl ⟨rfl, rfl⟩ (by decide +kernel) ⟨Nat.le_of_ble_eq_true rfl, Nat.le_of_ble_eq_true rfl⟩ rfl hl.1 rfl (Nat.le_of_ble_eq_true rfl) dX9_count_138 ⟨Nat.zero_le _, Nat.zero_le _⟩ (rfl) (fun H locs hG hL => ?_)
      exact g_iret S.1 hr hlocks hG hL (congrArg (fun z => some (Value.int z)) (by rw [csx]; rfl)) (congr (congrArg (kJ ce0 ad K.2.2.1 cI cB cO cR) (by rfl)) (by rfl)) dX9_count_141

set_option maxHeartbeats 4000000 in
set_option maxRecDepth 100000 in
theorem c_X9_firstCaseAlike {l : Launch} {D : va_G} {cI cZ cB cO cR cJ : ClassId} {Hb : Heap} {K : kTx} {lv : Nat → Prop} {ad : Nat → Nat} {ce0 : Nat → va_E} (s : Nat → Int32) (r : Nat → Nat → Int32) (hlv : kL lv s)  (h0 : 0 ≤ (s 39).toInt) (h1 : (s 39).toInt ≤ 60) : kMet l D cI cZ cB cO cR cJ Hb K lv ad ce0 yX9_firstCaseAlike wsX9_firstCaseAlike 3 69 [.ref (ad 100)] s r (some (.int (fF (faP s r) (s 39).toNatClampNeg 0))) s r := by
  refine Met.ofW (cc := cX9_firstCaseAlike) (maxL := 2) (ret := (some .int)) (by decide) rfl ?_
  intro p0 e0 s0 m0 args below meth c0 s₁ B hml hv
  obtain ⟨rfl, hG, hK, hE⟩ := hv
  have hx := B.exec
  have hb := B.bytes
  have hr := B.returns
  have hts := atoms_spec (ws := wsX9_firstCaseAlike) B.pre
  have hown : s0.vm.findClass RX9 = some m0.cls := findClass_of_methodNamed B.named
  have hlocks := B.notSynchronized
  have S : kX p0 m0 c0 cX9_firstCaseAlike 2 s0 _ wsX9_firstCaseAlike RX9 D (tyL cI cZ cB cO cR cJ) Hb K := ⟨⟨hx, hb, hml, hown, hts⟩, hK, hE⟩
  have hL : gL Hb [] := gL.nil
  have hH := hG.2.2.2.2
  have hl := lv_entry ([.ref (ad 100)]) (n := 2) (Nat.le_of_ble_eq_true rfl)
  rw [lg_entry_eq]
  generalize (lg_sl ([.ref (ad 100)]) ++ List.replicate (2 - (lg_sl ([.ref (ad 100)])).length) Slot.unset).toArray = ls at hl ⊢
  have hl : lv_has ls 2 [(0, .ref (ad 100))] := hl
  refine lv_iconst (v := 0) hx hb dX9_firstCaseAlike_0 (by decide) ?_
  refine lv_istore_n (lv' := [(1, .int 0), (0, .ref (ad 100))]) hx hb dX9_firstCaseAlike_1 rfl hl (by decide) rfl (fun ls hl => ?_)
  have LP : ∀ (n : Nat) (i : Nat) (x : Int32) (ex : x = nI i) (hi : i ≤ (s 39).toNatClampNeg) (hn : (s 39).toNatClampNeg + 1 ≤ i + n) (hF : fF (faP s r) ((s 39).toNatClampNeg - i) i = fF (faP s r) (s 39).toNatClampNeg 0), ∀ (H : Heap) (locs : List Loc), gW D Hb lv ad (kJ ce0 ad K.2.2.1 cI cB cO cR s r) H → gL Hb locs → ∀ (ls : Array Slot), lv_has ls 2 [(0, .ref (ad 100)), (1, .int x)] → W p0 l e0 (headSpec wsX9_firstCaseAlike { frames := 3, cells := 0, slots := 0, locals := 69 }).room s0 m0 ([.ref (ad 100)] : List Value).toArray below meth c0 H locs 0 0 (MQ below (gQ D Hb lv ad (some (.int (fF (faP s r) (s 39).toNatClampNeg 0))) (kJ ce0 ad K.2.2.1 cI cB cO cR s r)) ([.ref (ad 100)] : List Value).toArray s0 0 0 (gA Hb)) (F0 m0 2 ls []) := by
    intro n
    induction n with
    | zero => intro i x ex hi hn hF; exact absurd hn (by omega)
    | succ n ih =>
      intro i x ex hi hn hF H locs hG hL ls hl
      have hbd : (s 39).toNatClampNeg ≤ 60 := t_ixl h0 h1; have hii : Int32.toNatClampNeg x = i := by { rw [ex]; exact ix_nI (by omega) }
      refine lv_iload_n hx hb dX9_firstCaseAlike_2 rfl (lv_at hl 1 rfl) ?_
      refine lv_aload_n hx hb dX9_firstCaseAlike_3 rfl (lv_at hl 0 rfl) ?_
      refine k_ga (C := RX9) (T := TX9) (N := 14) (ci := 10) (v := .ref (ad 108)) S hG (fun w h => List.mem_cons_of_mem _ (List.mem_append_left _ (List.mem_append_left _ (List.mem_append_left _ (List.mem_append_right _ h))))) 100 (hlv.f (by decide) (by decide)) rfl rfl 7 (by decide) rfl (hts (.fieldLink RX9 50 "SwarmLine" "cases" "Ljava/util/ArrayList;") (by decide +kernel)) rfl dX9_firstCaseAlike_4 ?_
      refine k_callV (n := 0) (As := []) (rest := [.int x]) (st1 := .int (s 39) :: [.int x]) (k := 108) (ci := 0) S hG hL (hlv.f (by decide) (by decide)) rfl rfl (c_size3 s r hlv   ) gX9_firstCaseAlike_Jx4a65c_size_8abf5 rfl ⟨rfl, rfl⟩ (by decide +kernel) ⟨Nat.le_of_ble_eq_true rfl, Nat.le_of_ble_eq_true rfl⟩ rfl hl.1 rfl (Nat.le_of_ble_eq_true rfl) dX9_firstCaseAlike_7 ⟨Nat.zero_le _, Nat.zero_le _⟩ (rfl) (fun H locs hG hL => ?_)
      refine lv_icmp_ge (tgt := 46) hx hb dX9_firstCaseAlike_10 (by decide) (fun c10 => ?_) (fun c10 => ?_)
      ·
        have hEq := cl_ge h0 hi (ex ▸ c10)
        refine lv_iconst (v := (-1)) hx hb dX9_firstCaseAlike_46 (by decide) ?_
        exact g_iret S.1 hr hlocks hG hL (congrArg (fun z => some (Value.int z)) (by rw [← hF, hEq, Nat.sub_self]; rfl)) (congr (congrArg (kJ ce0 ad K.2.2.1 cI cB cO cR) (by rfl)) (by rfl)) dX9_firstCaseAlike_47
      ·
        have hlt := cl_lt h0 hi (ex ▸ c10)
        refine lv_aload_n hx hb dX9_firstCaseAlike_13 rfl (lv_at hl 0 rfl) ?_
        refine k_ga (C := RX9) (T := TX9) (N := 14) (ci := 10) (v := .ref (ad 108)) S hG (fun w h => List.mem_cons_of_mem _ (List.mem_append_left _ (List.mem_append_left _ (List.mem_append_left _ (List.mem_append_right _ h))))) 100 (hlv.f (by decide) (by decide)) rfl rfl 7 (by decide) rfl (hts (.fieldLink RX9 50 "SwarmLine" "cases" "Ljava/util/ArrayList;") (by decide +kernel)) rfl dX9_firstCaseAlike_14 ?_
        refine lv_iload_n hx hb dX9_firstCaseAlike_17 rfl (lv_at hl 1 rfl) ?_
        refine k_callV (n := 1) (As := [.int x]) (rest := []) (st1 := .ref (ad (4000 + i)) :: []) (k := 108) (ci := 0) S hG hL (hlv.f (by decide) (by decide)) rfl rfl (c_get3 s r hlv  x (g_x0 ex (by omega)) (g_x1 ex hlt (by omega) h0) (h1)) gX9_firstCaseAlike_Jx4a65c_get_915e3 rfl ⟨rfl, rfl⟩ (by decide +kernel) ⟨Nat.le_of_ble_eq_true rfl, Nat.le_of_ble_eq_true rfl⟩ rfl hl.1 rfl (Nat.le_of_ble_eq_true rfl) dX9_firstCaseAlike_18 ⟨Nat.zero_le _, Nat.zero_le _⟩ (by rw [hii]; rfl) (fun H locs hG hL => ?_)
        refine k_cast (C := RX1) (T := TX1) (N := 11) (ci := 2) S hG (4000 + i) (hlv.ca hlt) (kJ_ca (by omega)) rfl (hts (.classLink RX9 209 "SwarmLine$Case") (by decide +kernel)) dX9_firstCaseAlike_21 ?_
        refine lv_aload_n hx hb dX9_firstCaseAlike_24 rfl (lv_at hl 0 rfl) ?_
        refine k_ga (C := RX9) (T := TX9) (N := 14) (ci := 10) (v := .ref (ad 102)) S hG (fun w h => List.mem_cons_of_mem _ (List.mem_append_left _ (List.mem_append_left _ (List.mem_append_left _ (List.mem_append_right _ h))))) 100 (hlv.f (by decide) (by decide)) rfl rfl 1 (by decide) rfl (hts (.fieldLink RX9 19 "SwarmLine" "facts" "LSwarmLine$Facts;") (by decide +kernel)) rfl dX9_firstCaseAlike_25 ?_
        refine lv_aload_n hx hb dX9_firstCaseAlike_28 rfl (lv_at hl 0 rfl) ?_
        refine k_gi (C := RX9) (T := TX9) (N := 14) (ci := 10) (v := s 1) S hG (fun w h => List.mem_cons_of_mem _ (List.mem_append_left _ (List.mem_append_left _ (List.mem_append_left _ (List.mem_append_right _ h))))) 100 (hlv.f (by decide) (by decide)) rfl rfl 12 (by decide) rfl (hts (.fieldLink RX9 71 "SwarmLine" "now" "I") (by decide +kernel)) rfl (rfl) dX9_firstCaseAlike_29 ?_
        refine k_callV (n := 2) (As := [.ref (ad 102), .int (s 1)]) (rest := []) (st1 := .int (kAl i (s 1) s r) :: []) (k := 4000 + i) (ci := 2) S hG hL (hlv.ca hlt) (kJ_ca (by omega)) rfl (c_X1_isAlike s r hlv i hlt (by omega)  (s 1) ) gX9_firstCaseAlike_X1_isAlike rfl ⟨rfl, rfl⟩ (by decide +kernel) ⟨Nat.le_of_ble_eq_true rfl, Nat.le_of_ble_eq_true rfl⟩ rfl hl.1 rfl (Nat.le_of_ble_eq_true rfl) dX9_firstCaseAlike_32 ⟨Nat.zero_le _, Nat.zero_le _⟩ (rfl) (fun H locs hG hL => ?_)
        refine lv_if_eq (tgt := 40) hx hb dX9_firstCaseAlike_35 (by decide) (fun c35 => ?_) (fun c35 => ?_)
        ·
          refine lv_iinc (v := x + 1) (lv' := [(1, .int (x + 1)), (0, .ref (ad 100))]) hx hb dX9_firstCaseAlike_40 hl (k := 1) rfl (by rfl) (by decide) rfl (fun ls hl => ?_)
          refine lv_goto (tgt := 2) hx hb dX9_firstCaseAlike_43 (by decide) ?_
          exact ih  (i + 1) (x + 1) (by rw [ex]; exact nI_1 i) (hlt) (by omega) (by rw [← hF, show (s 39).toNatClampNeg - i = ((s 39).toNatClampNeg - (i + 1)) + 1 by omega]; simp only [fF, faP, eq_false c10, eq_true c35, ↓reduceIte, Bool.false_eq_true]) _ _ hG hL _ (lv_sub hl [1, 0] rfl)
        ·
          refine lv_iload_n hx hb dX9_firstCaseAlike_38 rfl (lv_at hl 1 rfl) ?_
          exact g_iret S.1 hr hlocks hG hL (congrArg (fun z => some (Value.int z)) (by rw [← hF, show (s 39).toNatClampNeg - i = ((s 39).toNatClampNeg - (i + 1)) + 1 by omega]; simp only [fF, faP, eq_false c10, eq_false c35, ↓reduceIte, ex])) (congr (congrArg (kJ ce0 ad K.2.2.1 cI cB cO cR) (by rfl)) (by rfl)) dX9_firstCaseAlike_39
  exact LP ((s 39).toNatClampNeg + 1) 0 0 (rfl) (Nat.zero_le _) (by omega) (rfl) _ _ hG hL _ (lv_sub hl [1, 0] rfl)

set_option maxHeartbeats 4000000 in
set_option maxRecDepth 100000 in
theorem c_X9_nearestSwarm {l : Launch} {D : va_G} {cI cZ cB cO cR cJ : ClassId} {Hb : Heap} {K : kTx} {lv : Nat → Prop} {ad : Nat → Nat} {ce0 : Nat → va_E} (s : Nat → Int32) (r : Nat → Nat → Int32) (hlv : kL lv s) (u : Int32) (v : Int32) (h0 : 0 ≤ (s 14).toInt) (h1 : (s 14).toInt ≤ 60) : kMet l D cI cZ cB cO cR cJ Hb K lv ad ce0 yX9_nearestSwarm wsX9_nearestSwarm 3 64 [.ref (ad 100), .int u, .int v] s r (some (.int ((nsF u v r (s 14).toNatClampNeg).1))) s r := by
  refine Met.ofW (cc := cX9_nearestSwarm) (maxL := 8) (ret := (some .int)) (by decide) rfl ?_
  intro p0 e0 s0 m0 args below meth c0 s₁ B hml hv
  obtain ⟨rfl, hG, hK, hE⟩ := hv
  have hx := B.exec
  have hb := B.bytes
  have hr := B.returns
  have hts := atoms_spec (ws := wsX9_nearestSwarm) B.pre
  have hown : s0.vm.findClass RX9 = some m0.cls := findClass_of_methodNamed B.named
  have hlocks := B.notSynchronized
  have S : kX p0 m0 c0 cX9_nearestSwarm 8 s0 _ wsX9_nearestSwarm RX9 D (tyL cI cZ cB cO cR cJ) Hb K := ⟨⟨hx, hb, hml, hown, hts⟩, hK, hE⟩
  have hL : gL Hb [] := gL.nil
  have hH := hG.2.2.2.2
  have hl := lv_entry ([.ref (ad 100), .int u, .int v]) (n := 8) (Nat.le_of_ble_eq_true rfl)
  rw [lg_entry_eq]
  generalize (lg_sl ([.ref (ad 100), .int u, .int v]) ++ List.replicate (8 - (lg_sl ([.ref (ad 100), .int u, .int v])).length) Slot.unset).toArray = ls at hl ⊢
  have hl : lv_has ls 8 [(0, .ref (ad 100)), (1, .int u), (2, .int v)] := hl
  refine lv_iconst (v := (-1)) hx hb dX9_nearestSwarm_0 (by decide) ?_
  refine lv_istore_n (lv' := [(3, .int (-1)), (0, .ref (ad 100)), (1, .int u), (2, .int v)]) hx hb dX9_nearestSwarm_1 rfl hl (by decide) rfl (fun ls hl => ?_)
  refine lv_iconst (v := 2) hx hb dX9_nearestSwarm_2 (by decide) ?_
  refine lv_istore (lv' := [(4, .int 2), (3, .int (-1)), (0, .ref (ad 100)), (1, .int u), (2, .int v)]) hx hb dX9_nearestSwarm_3 hl (by decide) rfl (fun ls hl => ?_)
  refine lv_iconst (v := 0) hx hb dX9_nearestSwarm_5 (by decide) ?_
  refine lv_istore (lv' := [(5, .int 0), (4, .int 2), (3, .int (-1)), (0, .ref (ad 100)), (1, .int u), (2, .int v)]) hx hb dX9_nearestSwarm_6 hl (by decide) rfl (fun ls hl => ?_)
  have LP : ∀ (n : Nat) (i : Nat) (x : Int32) (a : Int32) (b : Int32) (ex : x = nI i) (hi : i ≤ (s 14).toNatClampNeg) (hn : (s 14).toNatClampNeg + 1 ≤ i + n) (ha : a = (nsF u v r i).1) (hb9 : b = (nsF u v r i).2), ∀ (H : Heap) (locs : List Loc), gW D Hb lv ad (kJ ce0 ad K.2.2.1 cI cB cO cR s r) H → gL Hb locs → ∀ (ls : Array Slot), lv_has ls 8 [(0, .ref (ad 100)), (1, .int u), (2, .int v), (3, .int a), (4, .int b), (5, .int x)] → W p0 l e0 (headSpec wsX9_nearestSwarm { frames := 3, cells := 0, slots := 0, locals := 64 }).room s0 m0 ([.ref (ad 100), .int u, .int v] : List Value).toArray below meth c0 H locs 0 0 (MQ below (gQ D Hb lv ad (some (.int ((nsF u v r (s 14).toNatClampNeg).1))) (kJ ce0 ad K.2.2.1 cI cB cO cR s r)) ([.ref (ad 100), .int u, .int v] : List Value).toArray s0 0 0 (gA Hb)) (F0 m0 8 ls []) := by
    intro n
    induction n with
    | zero => intro i x a b ex hi hn ha hb9; exact absurd hn (by omega)
    | succ n ih =>
      intro i x a b ex hi hn ha hb9 H locs hG hL ls hl
      have hbd : (s 14).toNatClampNeg ≤ 60 := t_ixl h0 h1; have hii : Int32.toNatClampNeg x = i := by { rw [ex]; exact ix_nI (by omega) }
      refine lv_iload hx hb dX9_nearestSwarm_8 (lv_at hl 5 rfl) ?_
      refine lv_aload_n hx hb dX9_nearestSwarm_10 rfl (lv_at hl 0 rfl) ?_
      refine k_ga (C := RX9) (T := TX9) (N := 14) (ci := 10) (v := .ref (ad 106)) S hG (fun w h => List.mem_cons_of_mem _ (List.mem_append_left _ (List.mem_append_left _ (List.mem_append_right _ h)))) 100 (hlv.f (by decide) (by decide)) rfl rfl 5 (by decide) rfl (hts (.fieldLink RX9 44 "SwarmLine" "swarms" "Ljava/util/ArrayList;") (by decide +kernel)) rfl dX9_nearestSwarm_11 ?_
      refine k_callV (n := 0) (As := []) (rest := [.int x]) (st1 := .int (s 14) :: [.int x]) (k := 106) (ci := 0) S hG hL (hlv.f (by decide) (by decide)) rfl rfl (c_size1 s r hlv   ) gX9_nearestSwarm_Jx4a65c_size_8abf5 rfl ⟨rfl, rfl⟩ (by decide +kernel) ⟨Nat.le_of_ble_eq_true rfl, Nat.le_of_ble_eq_true rfl⟩ rfl hl.1 rfl (Nat.le_of_ble_eq_true rfl) dX9_nearestSwarm_14 ⟨Nat.zero_le _, Nat.zero_le _⟩ (rfl) (fun H locs hG hL => ?_)
      refine lv_icmp_ge (tgt := 79) hx hb dX9_nearestSwarm_17 (by decide) (fun c17 => ?_) (fun c17 => ?_)
      ·
        have hEq := cl_ge h0 hi (ex ▸ c17)
        refine lv_iload_n hx hb dX9_nearestSwarm_79 rfl (lv_at hl 3 rfl) ?_
        exact g_iret S.1 hr hlocks hG hL (congrArg (fun z => some (Value.int z)) (by rw [ha, hEq])) (congr (congrArg (kJ ce0 ad K.2.2.1 cI cB cO cR) (by rfl)) (by rfl)) dX9_nearestSwarm_80
      ·
        have hlt := cl_lt h0 hi (ex ▸ c17)
        refine lv_aload_n hx hb dX9_nearestSwarm_20 rfl (lv_at hl 0 rfl) ?_
        refine k_ga (C := RX9) (T := TX9) (N := 14) (ci := 10) (v := .ref (ad 106)) S hG (fun w h => List.mem_cons_of_mem _ (List.mem_append_left _ (List.mem_append_left _ (List.mem_append_right _ h)))) 100 (hlv.f (by decide) (by decide)) rfl rfl 5 (by decide) rfl (hts (.fieldLink RX9 44 "SwarmLine" "swarms" "Ljava/util/ArrayList;") (by decide +kernel)) rfl dX9_nearestSwarm_21 ?_
        refine lv_iload hx hb dX9_nearestSwarm_24 (lv_at hl 5 rfl) ?_
        refine k_callV (n := 1) (As := [.int x]) (rest := []) (st1 := .ref (ad (2000 + i)) :: []) (k := 106) (ci := 0) S hG hL (hlv.f (by decide) (by decide)) rfl rfl (c_get1 s r hlv  x (g_x0 ex (by omega)) (g_x1 ex hlt (by omega) h0) (h1)) gX9_nearestSwarm_Jx4a65c_get_915e3 rfl ⟨rfl, rfl⟩ (by decide +kernel) ⟨Nat.le_of_ble_eq_true rfl, Nat.le_of_ble_eq_true rfl⟩ rfl hl.1 rfl (Nat.le_of_ble_eq_true rfl) dX9_nearestSwarm_26 ⟨Nat.zero_le _, Nat.zero_le _⟩ (by rw [hii]; rfl) (fun H locs hG hL => ?_)
        refine k_cast (C := RX6) (T := TX6) (N := 11) (ci := 7) S hG (2000 + i) (hlv.sw hlt) (kJ_sw (by omega)) rfl (hts (.classLink RX9 292 "SwarmLine$Swarm") (by decide +kernel)) dX9_nearestSwarm_29 ?_
        refine lv_astore (lv' := [(6, .ref (ad (2000 + i))), (0, .ref (ad 100)), (1, .int u), (2, .int v), (3, .int a), (4, .int b), (5, .int x)]) hx hb dX9_nearestSwarm_32 hl (by decide) rfl (fun ls hl => ?_)
        refine lv_aload hx hb dX9_nearestSwarm_34 (lv_at hl 0 rfl) ?_
        refine k_giN (C := RX6) (T := TX6) (N := 11) (ci := 7) (v := r 18 i) S hG (fun w h => List.mem_cons_of_mem _ (List.mem_append_left _ (List.mem_append_right _ h))) (2000 + i) (hlv.sw hlt) (kJ_sw (by omega)) rfl 2 (by decide) rfl (by decide +kernel) rfl (rfl) dX9_nearestSwarm_36 ?_
        refine lv_aload hx hb dX9_nearestSwarm_39 (lv_at hl 0 rfl) ?_
        refine k_giN (C := RX6) (T := TX6) (N := 11) (ci := 7) (v := r 19 i) S hG (fun w h => List.mem_cons_of_mem _ (List.mem_append_left _ (List.mem_append_right _ h))) (2000 + i) (hlv.sw hlt) (kJ_sw (by omega)) rfl 3 (by decide) rfl (by decide +kernel) rfl (rfl) dX9_nearestSwarm_41 ?_
        refine lv_iload_n hx hb dX9_nearestSwarm_44 rfl (lv_at hl 2 rfl) ?_
        refine lv_iload_n hx hb dX9_nearestSwarm_45 rfl (lv_at hl 3 rfl) ?_
        refine m_callP (n := 4) (As := [.int (r 18 i), .int (r 19 i), .int u, .int v]) (rest := []) (st1 := .int (kSt (r 18 i) (r 19 i) u v) :: []) S.1 (c_X9_stepsBetween (r 18 i) (r 19 i) u v) gX9_nearestSwarm_X9_stepsBetween rfl (by decide +kernel) ⟨Nat.le_of_ble_eq_true rfl, Nat.le_of_ble_eq_true rfl⟩ rfl hl.1 rfl (Nat.le_of_ble_eq_true rfl) dX9_nearestSwarm_46 ⟨Nat.zero_le _, Nat.zero_le _⟩ (rfl) ?_
        refine lv_istore (lv' := [(7, .int (kSt (r 18 i) (r 19 i) u v)), (6, .ref (ad (2000 + i))), (0, .ref (ad 100)), (1, .int u), (2, .int v), (3, .int a), (4, .int b), (5, .int x)]) hx hb dX9_nearestSwarm_49 hl (by decide) rfl (fun ls hl => ?_)
        refine lv_aload hx hb dX9_nearestSwarm_51 (lv_at hl 1 rfl) ?_
        refine k_giN (C := RX6) (T := TX6) (N := 11) (ci := 7) (v := r 15 i) S hG (fun w h => List.mem_cons_of_mem _ (List.mem_append_left _ (List.mem_append_right _ h))) (2000 + i) (hlv.sw hlt) (kJ_sw (by omega)) rfl 7 (by decide) rfl (by decide +kernel) rfl (rfl) dX9_nearestSwarm_53 ?_
        refine lv_if_ne (tgt := 73) hx hb dX9_nearestSwarm_56 (by decide) (fun c56 => ?_) (fun c56 => ?_)
        ·
          refine lv_iinc (v := x + 1) (lv' := [(5, .int (x + 1)), (7, .int (kSt (r 18 i) (r 19 i) u v)), (6, .ref (ad (2000 + i))), (0, .ref (ad 100)), (1, .int u), (2, .int v), (3, .int a), (4, .int b)]) hx hb dX9_nearestSwarm_73 hl (k := 7) rfl (by rfl) (by decide) rfl (fun ls hl => ?_)
          refine lv_goto (tgt := 8) hx hb dX9_nearestSwarm_76 (by decide) ?_
          exact ih  (i + 1) (x + 1) a b (by rw [ex]; exact nI_1 i) (hlt) (by omega) (by simp only [nsF, ← hb9, eq_false c17, eq_false c56, ↓reduceIte] <;> exact ha) (by simp only [nsF, ← hb9, eq_false c17, eq_false c56, ↓reduceIte] <;> exact hb9) _ _ hG hL _ (lv_sub hl [3, 4, 5, 6, 7, 0] rfl)
        ·
          refine lv_iload hx hb dX9_nearestSwarm_59 (lv_at hl 0 rfl) ?_
          refine lv_iload hx hb dX9_nearestSwarm_61 (lv_at hl 6 rfl) ?_
          refine lv_icmp_ge (tgt := 73) hx hb dX9_nearestSwarm_63 (by decide) (fun c63 => ?_) (fun c63 => ?_)
          ·
            refine lv_iinc (v := x + 1) (lv' := [(5, .int (x + 1)), (7, .int (kSt (r 18 i) (r 19 i) u v)), (6, .ref (ad (2000 + i))), (0, .ref (ad 100)), (1, .int u), (2, .int v), (3, .int a), (4, .int b)]) hx hb dX9_nearestSwarm_73 hl (k := 7) rfl (by rfl) (by decide) rfl (fun ls hl => ?_)
            refine lv_goto (tgt := 8) hx hb dX9_nearestSwarm_76 (by decide) ?_
            exact ih  (i + 1) (x + 1) a b (by rw [ex]; exact nI_1 i) (hlt) (by omega) (by simp only [nsF, ← hb9, eq_false c17, eq_true c56, eq_true c63, ↓reduceIte] <;> exact ha) (by simp only [nsF, ← hb9, eq_false c17, eq_true c56, eq_true c63, ↓reduceIte] <;> exact hb9) _ _ hG hL _ (lv_sub hl [3, 4, 5, 6, 7, 0] rfl)
          ·
            refine lv_iload hx hb dX9_nearestSwarm_66 (lv_at hl 7 rfl) ?_
            refine lv_istore_n (lv' := [(3, .int x), (7, .int (kSt (r 18 i) (r 19 i) u v)), (6, .ref (ad (2000 + i))), (0, .ref (ad 100)), (1, .int u), (2, .int v), (4, .int b), (5, .int x)]) hx hb dX9_nearestSwarm_68 rfl hl (by decide) rfl (fun ls hl => ?_)
            refine lv_iload hx hb dX9_nearestSwarm_69 (lv_at hl 1 rfl) ?_
            refine lv_istore (lv' := [(4, .int (kSt (r 18 i) (r 19 i) u v)), (3, .int x), (7, .int (kSt (r 18 i) (r 19 i) u v)), (6, .ref (ad (2000 + i))), (0, .ref (ad 100)), (1, .int u), (2, .int v), (5, .int x)]) hx hb dX9_nearestSwarm_71 hl (by decide) rfl (fun ls hl => ?_)
            refine lv_iinc (v := x + 1) (lv' := [(5, .int (x + 1)), (4, .int (kSt (r 18 i) (r 19 i) u v)), (3, .int x), (7, .int (kSt (r 18 i) (r 19 i) u v)), (6, .ref (ad (2000 + i))), (0, .ref (ad 100)), (1, .int u), (2, .int v)]) hx hb dX9_nearestSwarm_73 hl (k := 7) rfl (by rfl) (by decide) rfl (fun ls hl => ?_)
            refine lv_goto (tgt := 8) hx hb dX9_nearestSwarm_76 (by decide) ?_
            exact ih  (i + 1) (x + 1) x (kSt (r 18 i) (r 19 i) u v) (by rw [ex]; exact nI_1 i) (hlt) (by omega) (by simp only [nsF, ← hb9, eq_false c17, eq_true c56, eq_false c63, ↓reduceIte] <;> exact ex) (by simp only [nsF, ← hb9, eq_false c17, eq_true c56, eq_false c63, ↓reduceIte]) _ _ hG hL _ (lv_sub hl [5, 6, 7, 2, 1, 0] rfl)
  exact LP ((s 14).toNatClampNeg + 1) 0 0 (-1) 2 (rfl) (Nat.zero_le _) (by omega) (rfl) (rfl) _ _ hG hL _ (lv_sub hl [3, 4, 5, 2, 1, 0] rfl)

set_option maxHeartbeats 4000000 in
set_option maxRecDepth 100000 in
theorem c_X4_hoursTo {l : Launch} {D : va_G} {cI cZ cB cO cR cJ : ClassId} {Hb : Heap} {K : kTx} {lv : Nat → Prop} {ad : Nat → Nat} {ce0 : Nat → va_E} (s : Nat → Int32) (r : Nat → Nat → Int32) (hlv : kL lv s) (i : Nat) (hi : i < (s 26).toNatClampNeg) (hi9 : i < 1000) (x : Int32) (y : Int32) (hd9 : (kSt (r 27 i) (r 28 i) x y).toInt ≤ 19) : kMet l D cI cZ cB cO cR cJ Hb K lv ad ce0 yX4_hoursTo wsX4_hoursTo 2 47 [.ref (ad (3000 + i)), .int x, .int y] s r (some (.int (kHt i x y r))) s r := by
  refine Met.ofW (cc := cX4_hoursTo) (maxL := 5) (ret := (some .int)) (by decide) rfl ?_
  intro p0 e0 s0 m0 args below meth c0 s₁ B hml hv
  obtain ⟨rfl, hG, hK, hE⟩ := hv
  have hx := B.exec
  have hb := B.bytes
  have hr := B.returns
  have hts := atoms_spec (ws := wsX4_hoursTo) B.pre
  have hown : s0.vm.findClass RX4 = some m0.cls := findClass_of_methodNamed B.named
  have hlocks := B.notSynchronized
  have S : kX p0 m0 c0 cX4_hoursTo 5 s0 _ wsX4_hoursTo RX4 D (tyL cI cZ cB cO cR cJ) Hb K := ⟨⟨hx, hb, hml, hown, hts⟩, hK, hE⟩
  have hL : gL Hb [] := gL.nil
  have hH := hG.2.2.2.2
  have hl := lv_entry ([.ref (ad (3000 + i)), .int x, .int y]) (n := 5) (Nat.le_of_ble_eq_true rfl)
  rw [lg_entry_eq]
  generalize (lg_sl ([.ref (ad (3000 + i)), .int x, .int y]) ++ List.replicate (5 - (lg_sl ([.ref (ad (3000 + i)), .int x, .int y])).length) Slot.unset).toArray = ls at hl ⊢
  have hl : lv_has ls 5 [(0, .ref (ad (3000 + i))), (1, .int x), (2, .int y)] := hl
  refine lv_aload_n hx hb dX4_hoursTo_0 rfl (lv_at hl 0 rfl) ?_
  refine k_gi (C := RX4) (T := TX4) (N := 12) (ci := 5) (v := r 27 i) S hG (fun w h => List.mem_cons_of_mem _ (List.mem_append_right _ h)) (3000 + i) (hlv.kp hi) (kJ_kp hi9) rfl 0 (by decide) rfl (hts (.fieldLink RX4 27 "SwarmLine$Keeper" "x" "I") (by decide +kernel)) rfl (rfl) dX4_hoursTo_1 ?_
  refine lv_aload_n hx hb dX4_hoursTo_4 rfl (lv_at hl 0 rfl) ?_
  refine k_gi (C := RX4) (T := TX4) (N := 12) (ci := 5) (v := r 28 i) S hG (fun w h => List.mem_cons_of_mem _ (List.mem_append_right _ h)) (3000 + i) (hlv.kp hi) (kJ_kp hi9) rfl 1 (by decide) rfl (hts (.fieldLink RX4 30 "SwarmLine$Keeper" "y" "I") (by decide +kernel)) rfl (rfl) dX4_hoursTo_5 ?_
  refine lv_iload_n hx hb dX4_hoursTo_8 rfl (lv_at hl 1 rfl) ?_
  refine lv_iload_n hx hb dX4_hoursTo_9 rfl (lv_at hl 2 rfl) ?_
  refine k_callPN (n := 4) (As := [.int (r 27 i), .int (r 28 i), .int x, .int y]) (rest := []) (st1 := .int (kSt (r 27 i) (r 28 i) x y) :: []) S (c_X9_stepsBetween (r 27 i) (r 28 i) x y) gX4_hoursTo_X9_stepsBetween_n52 rfl (by decide +kernel) (hts (.initialized RX9) (by decide +kernel)) (hts (.static yX9_stepsBetween) (by decide +kernel)) (by decide +kernel) ⟨Nat.le_of_ble_eq_true rfl, Nat.le_of_ble_eq_true rfl⟩ rfl hl.1 rfl (Nat.le_of_ble_eq_true rfl) dX4_hoursTo_10 ⟨Nat.zero_le _, Nat.zero_le _⟩ (rfl) ?_
  refine lv_istore_n (lv' := [(3, .int (kSt (r 27 i) (r 28 i) x y)), (0, .ref (ad (3000 + i))), (1, .int x), (2, .int y)]) hx hb dX4_hoursTo_13 rfl hl (by decide) rfl (fun ls hl => ?_)
  refine lv_iconst (v := 1) hx hb dX4_hoursTo_14 (by decide) ?_
  refine lv_istore (lv' := [(4, .int 1), (3, .int (kSt (r 27 i) (r 28 i) x y)), (0, .ref (ad (3000 + i))), (1, .int x), (2, .int y)]) hx hb dX4_hoursTo_15 hl (by decide) rfl (fun ls hl => ?_)
  have LP : ∀ (n : Nat) (j : Nat) (h : Int32) (ej : h = nI j) (hj : j ≤ 19) (hn : 20 ≤ j + n) (hF : htF (kSt (r 27 i) (r 28 i) x y) (r 31 i) (20 - j) h = kHt i x y r), ∀ (H : Heap) (locs : List Loc), gW D Hb lv ad (kJ ce0 ad K.2.2.1 cI cB cO cR s r) H → gL Hb locs → ∀ (ls : Array Slot), lv_has ls 5 [(0, .ref (ad (3000 + i))), (1, .int x), (2, .int y), (3, .int (kSt (r 27 i) (r 28 i) x y)), (4, .int h)] → W p0 l e0 (headSpec wsX4_hoursTo { frames := 2, cells := 0, slots := 0, locals := 47 }).room s0 m0 ([.ref (ad (3000 + i)), .int x, .int y] : List Value).toArray below meth c0 H locs 0 0 (MQ below (gQ D Hb lv ad (some (.int (kHt i x y r))) (kJ ce0 ad K.2.2.1 cI cB cO cR s r)) ([.ref (ad (3000 + i)), .int x, .int y] : List Value).toArray s0 0 0 (gA Hb)) (F0 m0 17 ls []) := by
    intro n
    induction n with
    | zero => intro j h ej hj hn hF; exact absurd hn (by omega)
    | succ n ih =>
      intro j h ej hj hn hF H locs hG hL ls hl
      refine lv_iload hx hb dX4_hoursTo_17 (lv_at hl 4 rfl) ?_
      refine lv_iload_n hx hb dX4_hoursTo_19 rfl (lv_at hl 3 rfl) ?_
      refine lv_icmp_ge (tgt := 40) hx hb dX4_hoursTo_20 (by decide) (fun c20 => ?_) (fun c20 => ?_)
      ·
        refine lv_iload hx hb dX4_hoursTo_40 (lv_at hl 4 rfl) ?_
        exact g_iret S.1 hr hlocks hG hL (congrArg (fun z => some (Value.int z)) (by rw [← hF, show 20 - j = (20 - (j + 1)) + 1 by omega]; simp only [htF, eq_true c20, ↓reduceIte])) (congr (congrArg (kJ ce0 ad K.2.2.1 cI cB cO cR) (by rfl)) (by rfl)) dX4_hoursTo_42
      ·
        refine lv_iload hx hb dX4_hoursTo_23 (lv_at hl 4 rfl) ?_
        refine lv_aload_n hx hb dX4_hoursTo_25 rfl (lv_at hl 0 rfl) ?_
        refine k_gi (C := RX4) (T := TX4) (N := 12) (ci := 5) (v := r 31 i) S hG (fun w h => List.mem_cons_of_mem _ (List.mem_append_right _ h)) (3000 + i) (hlv.kp hi) (kJ_kp hi9) rfl 3 (by decide) rfl (hts (.fieldLink RX4 39 "SwarmLine$Keeper" "pace" "I") (by decide +kernel)) rfl (rfl) dX4_hoursTo_26 ?_
        refine lv_imul hx hb dX4_hoursTo_29 ?_
        refine lv_iload_n hx hb dX4_hoursTo_30 rfl (lv_at hl 3 rfl) ?_
        refine lv_icmp_ge (tgt := 40) hx hb dX4_hoursTo_31 (by decide) (fun c31 => ?_) (fun c31 => ?_)
        ·
          refine lv_iload hx hb dX4_hoursTo_40 (lv_at hl 4 rfl) ?_
          exact g_iret S.1 hr hlocks hG hL (congrArg (fun z => some (Value.int z)) (by rw [← hF, show 20 - j = (20 - (j + 1)) + 1 by omega]; simp only [htF, eq_false c20, eq_true c31, ↓reduceIte])) (congr (congrArg (kJ ce0 ad K.2.2.1 cI cB cO cR) (by rfl)) (by rfl)) dX4_hoursTo_42
        ·
          refine lv_iinc (v := h + 1) (lv' := [(4, .int (h + 1)), (0, .ref (ad (3000 + i))), (1, .int x), (2, .int y), (3, .int (kSt (r 27 i) (r 28 i) x y))]) hx hb dX4_hoursTo_34 hl (k := 4) rfl (by rfl) (by decide) rfl (fun ls hl => ?_)
          refine lv_goto (tgt := 17) hx hb dX4_hoursTo_37 (by decide) ?_
          exact ih  (j + 1) (h + 1) (by rw [ej]; exact nI_1 j) (by have q := hd9; have c := c20; rw [t_le, ej, nI_toInt (by omega)] at c; omega) (by omega) (by rw [← hF, show 20 - j = (20 - (j + 1)) + 1 by omega]; simp only [htF, eq_false c20, eq_false c31, ↓reduceIte]) _ _ hG hL _ (lv_sub hl [1, 2, 3, 4, 0] rfl)
  exact LP 20 1 1 (rfl) (by omega) (by omega) (rfl) _ _ hG hL _ (lv_sub hl [2, 3, 4, 1, 0] rfl)

set_option maxHeartbeats 4000000 in
set_option maxRecDepth 100000 in
theorem c_X4_setOut {l : Launch} {D : va_G} {cI cZ cB cO cR cJ : ClassId} {Hb : Heap} {K : kTx} {lv : Nat → Prop} {ad : Nat → Nat} {ce0 : Nat → va_E} (s : Nat → Int32) (r : Nat → Nat → Int32) (hlv : kL lv s) (i : Nat) (hi : i < (s 26).toNatClampNeg) (hi9 : i < 1000) (c : Int32) (x : Int32) (y : Int32) (hd9 : (kSt (r 27 i) (r 28 i) x y).toInt ≤ 19) : kMet l D cI cZ cB cO cR cJ Hb K lv ad ce0 yX4_setOut wsX4_setOut 3 71 [.ref (ad (3000 + i)), .int c, .int x, .int y] s r none s (soR i c x y r) := by
  refine Met.ofW (cc := cX4_setOut) (maxL := 4) (ret := none) (by decide) rfl ?_
  intro p0 e0 s0 m0 args below meth c0 s₁ B hml hv
  obtain ⟨rfl, hG, hK, hE⟩ := hv
  have hx := B.exec
  have hb := B.bytes
  have hr := B.returns
  have hts := atoms_spec (ws := wsX4_setOut) B.pre
  have hown : s0.vm.findClass RX4 = some m0.cls := findClass_of_methodNamed B.named
  have hlocks := B.notSynchronized
  have S : kX p0 m0 c0 cX4_setOut 4 s0 _ wsX4_setOut RX4 D (tyL cI cZ cB cO cR cJ) Hb K := ⟨⟨hx, hb, hml, hown, hts⟩, hK, hE⟩
  have hL : gL Hb [] := gL.nil
  have hH := hG.2.2.2.2
  have hl := lv_entry ([.ref (ad (3000 + i)), .int c, .int x, .int y]) (n := 4) (Nat.le_of_ble_eq_true rfl)
  rw [lg_entry_eq]
  generalize (lg_sl ([.ref (ad (3000 + i)), .int c, .int x, .int y]) ++ List.replicate (4 - (lg_sl ([.ref (ad (3000 + i)), .int c, .int x, .int y])).length) Slot.unset).toArray = ls at hl ⊢
  have hl : lv_has ls 4 [(0, .ref (ad (3000 + i))), (1, .int c), (2, .int x), (3, .int y)] := hl
  refine lv_aload_n hx hb dX4_setOut_0 rfl (lv_at hl 0 rfl) ?_
  refine lv_iconst (v := 1) hx hb dX4_setOut_1 (by decide) ?_
  refine k_pi (C := RX4) (T := TX4) (N := 12) (ci := 5) (ty := .int) S hG hL (fun w h => List.mem_cons_of_mem _ (List.mem_append_right _ h)) tyX4 tyX4_ok nmX4 (3000 + i) (hlv.kp hi) (kJ_kp hi9) rfl 7 (by decide) rfl (hts (.fieldLink RX4 9 "SwarmLine$Keeper" "state" "I") (by decide +kernel)) rfl (by decide +kernel) rfl rfl (Nat.le_of_ble_eq_true rfl) (kw_kp_state hi9 _) dX4_setOut_2 (fun H locs hG hL => ?_)
  refine lv_aload_n hx hb dX4_setOut_5 rfl (lv_at hl 0 rfl) ?_
  refine lv_iload_n hx hb dX4_setOut_6 rfl (lv_at hl 1 rfl) ?_
  refine k_pi (C := RX4) (T := TX4) (N := 12) (ci := 5) (ty := .int) S hG hL (fun w h => List.mem_cons_of_mem _ (List.mem_append_right _ h)) tyX4 tyX4_ok nmX4 (3000 + i) (hlv.kp hi) (kJ_kp hi9) rfl 10 (by decide) rfl (hts (.fieldLink RX4 21 "SwarmLine$Keeper" "aCase" "I") (by decide +kernel)) rfl (by decide +kernel) rfl rfl (Nat.le_of_ble_eq_true rfl) (kw_kp_aCase hi9 _) dX4_setOut_7 (fun H locs hG hL => ?_)
  refine lv_aload_n hx hb dX4_setOut_10 rfl (lv_at hl 0 rfl) ?_
  refine lv_aload_n hx hb dX4_setOut_11 rfl (lv_at hl 0 rfl) ?_
  refine lv_iload_n hx hb dX4_setOut_12 rfl (lv_at hl 2 rfl) ?_
  refine lv_iload_n hx hb dX4_setOut_13 rfl (lv_at hl 3 rfl) ?_
  refine k_callV (n := 2) (As := [.int x, .int y]) (rest := [.ref (ad (3000 + i))]) (st1 := .int (kHt i x y r) :: [.ref (ad (3000 + i))]) (k := 3000 + i) (ci := 5) S hG hL (hlv.kp hi) (kJ_kp hi9) rfl (c_X4_hoursTo s (up2 (up2 r 34 i 1) 37 i c) hlv i hi hi9 x y (hd9)) gX4_setOut_X4_hoursTo rfl ⟨rfl, rfl⟩ (by decide +kernel) ⟨Nat.le_of_ble_eq_true rfl, Nat.le_of_ble_eq_true rfl⟩ rfl hl.1 rfl (Nat.le_of_ble_eq_true rfl) dX4_setOut_14 ⟨Nat.zero_le _, Nat.zero_le _⟩ (rfl) (fun H locs hG hL => ?_)
  refine k_pi (C := RX4) (T := TX4) (N := 12) (ci := 5) (ty := .int) S hG hL (fun w h => List.mem_cons_of_mem _ (List.mem_append_right _ h)) tyX4 tyX4_ok nmX4 (3000 + i) (hlv.kp hi) (kJ_kp hi9) rfl 8 (by decide) rfl (hts (.fieldLink RX4 15 "SwarmLine$Keeper" "hoursOneWay" "I") (by decide +kernel)) rfl (by decide +kernel) rfl rfl (Nat.le_of_ble_eq_true rfl) (kw_kp_hoursOneWay hi9 _) dX4_setOut_17 (fun H locs hG hL => ?_)
  refine lv_aload_n hx hb dX4_setOut_20 rfl (lv_at hl 0 rfl) ?_
  refine lv_aload_n hx hb dX4_setOut_21 rfl (lv_at hl 0 rfl) ?_
  refine k_gi (C := RX4) (T := TX4) (N := 12) (ci := 5) (v := kHt i x y r) S hG (fun w h => List.mem_cons_of_mem _ (List.mem_append_right _ h)) (3000 + i) (hlv.kp hi) (kJ_kp hi9) rfl 8 (by decide) rfl (hts (.fieldLink RX4 15 "SwarmLine$Keeper" "hoursOneWay" "I") (by decide +kernel)) rfl (up2_ss ..) dX4_setOut_22 ?_
  refine k_pi (C := RX4) (T := TX4) (N := 12) (ci := 5) (ty := .int) S hG hL (fun w h => List.mem_cons_of_mem _ (List.mem_append_right _ h)) tyX4 tyX4_ok nmX4 (3000 + i) (hlv.kp hi) (kJ_kp hi9) rfl 9 (by decide) rfl (hts (.fieldLink RX4 18 "SwarmLine$Keeper" "hoursToGo" "I") (by decide +kernel)) rfl (by decide +kernel) rfl rfl (Nat.le_of_ble_eq_true rfl) (kw_kp_hoursToGo hi9 _) dX4_setOut_25 (fun H locs hG hL => ?_)
  exact g_vret S.1 hr hlocks hG hL rfl (congr (congrArg (kJ ce0 ad K.2.2.1 cI cB cO cR) (by rfl)) (by rfl)) dX4_setOut_28

set_option maxHeartbeats 4000000 in
set_option maxRecDepth 100000 in
theorem c_X5_hourGone {l : Launch} {D : va_G} {cI cZ cB cO cR cJ : ClassId} {Hb : Heap} {K : kTx} {lv : Nat → Prop} {ad : Nat → Nat} {ce0 : Nat → va_E} (s : Nat → Int32) (r : Nat → Nat → Int32) (hlv : kL lv s) (a : Int32) (t : Int32) (q : Int32) (h0 : 0 ≤ a.toInt) (h9 : a.toInt ≤ 743) (ht : t = s 1 / 24) : kMet l D cI cZ cB cO cR cJ Hb K lv ad ce0 yX5_hourGone wsX5_hourGone 4 88 [.ref (ad 103), .int a, .int t, .int q] s r (some (.int (fGo a q s r))) s r := by
  refine Met.ofW (cc := cX5_hourGone) (maxL := 6) (ret := (some .int)) (by decide) rfl ?_
  intro p0 e0 s0 m0 args below meth c0 s₁ B hml hv
  obtain ⟨rfl, hG, hK, hE⟩ := hv
  have hx := B.exec
  have hb := B.bytes
  have hr := B.returns
  have hts := atoms_spec (ws := wsX5_hourGone) B.pre
  have hown : s0.vm.findClass RX5 = some m0.cls := findClass_of_methodNamed B.named
  have hlocks := B.notSynchronized
  have S : kX p0 m0 c0 cX5_hourGone 6 s0 _ wsX5_hourGone RX5 D (tyL cI cZ cB cO cR cJ) Hb K := ⟨⟨hx, hb, hml, hown, hts⟩, hK, hE⟩
  have hL : gL Hb [] := gL.nil
  have hH := hG.2.2.2.2
  have hl := lv_entry ([.ref (ad 103), .int a, .int t, .int q]) (n := 6) (Nat.le_of_ble_eq_true rfl)
  rw [lg_entry_eq]
  generalize (lg_sl ([.ref (ad 103), .int a, .int t, .int q]) ++ List.replicate (6 - (lg_sl ([.ref (ad 103), .int a, .int t, .int q])).length) Slot.unset).toArray = ls at hl ⊢
  have hl : lv_has ls 6 [(0, .ref (ad 103)), (1, .int a), (2, .int t), (3, .int q)] := hl
  refine lv_bipush (v := 60) hx hb dX5_hourGone_0 (by decide) ?_
  refine lv_istore (lv' := [(4, .int 60), (0, .ref (ad 103)), (1, .int a), (2, .int t), (3, .int q)]) hx hb dX5_hourGone_2 hl (by decide) rfl (fun ls hl => ?_)
  refine lv_iload_n hx hb dX5_hourGone_4 rfl (lv_at hl 2 rfl) ?_
  refine lv_istore (lv' := [(5, .int a), (4, .int 60), (0, .ref (ad 103)), (1, .int a), (2, .int t), (3, .int q)]) hx hb dX5_hourGone_5 hl (by decide) rfl (fun ls hl => ?_)
  have LP : ∀ (n : Nat) (p : Int32) (h : Int32) (hF : goF q s r n p h = fGo a q s r) (hn1 : 1 ≤ n) (hp : p.toInt < n ∧ p.toInt ≤ 60) (hh : 0 ≤ h.toInt ∧ h.toInt + p.toInt ≤ a.toInt + 60), ∀ (H : Heap) (locs : List Loc), gW D Hb lv ad (kJ ce0 ad K.2.2.1 cI cB cO cR s r) H → gL Hb locs → ∀ (ls : Array Slot), lv_has ls 6 [(0, .ref (ad 103)), (1, .int a), (2, .int t), (3, .int q), (4, .int p), (5, .int h)] → W p0 l e0 (headSpec wsX5_hourGone { frames := 4, cells := 0, slots := 0, locals := 88 }).room s0 m0 ([.ref (ad 103), .int a, .int t, .int q] : List Value).toArray below meth c0 H locs 0 0 (MQ below (gQ D Hb lv ad (some (.int (fGo a q s r))) (kJ ce0 ad K.2.2.1 cI cB cO cR s r)) ([.ref (ad 103), .int a, .int t, .int q] : List Value).toArray s0 0 0 (gA Hb)) (F0 m0 7 ls []) := by
    intro n
    induction n with
    | zero => intro p h hF hn1 hp hh; exact absurd hn1 (by omega)
    | succ n ih =>
      intro p h hF hn1 hp hh H locs hG hL ls hl
      refine lv_iload hx hb dX5_hourGone_7 (lv_at hl 4 rfl) ?_
      refine lv_if_le (tgt := 46) hx hb dX5_hourGone_9 (by decide) (fun c9 => ?_) (fun c9 => ?_)
      ·
        refine lv_iload hx hb dX5_hourGone_46 (lv_at hl 5 rfl) ?_
        exact g_iret S.1 hr hlocks hG hL (congrArg (fun z => some (Value.int z)) (by rw [← hF]; simp only [goF, eq_true c9, ↓reduceIte])) (congr (congrArg (kJ ce0 ad K.2.2.1 cI cB cO cR) (by rfl)) (by rfl)) dX5_hourGone_48
      ·
        refine lv_iload hx hb dX5_hourGone_12 (lv_at hl 5 rfl) ?_
        refine lv_iload_n hx hb dX5_hourGone_14 rfl (lv_at hl 1 rfl) ?_
        refine lv_bipush (v := 60) hx hb dX5_hourGone_15 (by decide) ?_
        refine lv_iadd hx hb dX5_hourGone_17 ?_
        refine lv_icmp_ge (tgt := 46) hx hb dX5_hourGone_18 (by decide) (fun c18 => absurd c18 (by { rw [t_le, t_add (by have z : (60 : Int32).toInt = 60 := rfl; omega) (by have z : (60 : Int32).toInt = 60 := rfl; omega)]; have c := c9; rw [t_le, t_0] at c; have z : (60 : Int32).toInt = 60 := rfl; omega })) (fun c18 => ?_)
        refine lv_iinc (v := h + 1) (lv' := [(5, .int (h + 1)), (0, .ref (ad 103)), (1, .int a), (2, .int t), (3, .int q), (4, .int p)]) hx hb dX5_hourGone_21 hl (k := 5) rfl (by rfl) (by decide) rfl (fun ls hl => ?_)
        refine lv_iload hx hb dX5_hourGone_24 (lv_at hl 5 rfl) ?_
        refine lv_aload_n hx hb dX5_hourGone_26 rfl (lv_at hl 1 rfl) ?_
        refine lv_iload hx hb dX5_hourGone_27 (lv_at hl 0 rfl) ?_
        refine lv_bipush (v := 24) hx hb dX5_hourGone_29 (by decide) ?_
        refine lv_idiv hx hb dX5_hourGone_31 (by decide) ?_
        refine lv_iload_n hx hb dX5_hourGone_32 rfl (lv_at hl 3 rfl) ?_
        refine lv_iload_n hx hb dX5_hourGone_33 rfl (lv_at hl 4 rfl) ?_
        refine k_callV (n := 3) (As := [.int ((h + 1) / 24), .int t, .int q]) (rest := [.int p]) (st1 := .int (wAt q s r (h + 1)) :: [.int p]) (k := 103) (ci := 6) S hG hL (hlv.f (by decide) (by decide)) rfl rfl (c_X5_reckonedWarmth s r hlv  ((h + 1) / 24) t q (by rw [t_div24 (by rw [go_h c9 hh.1 (by omega)]; omega), go_h c9 hh.1 (by omega)]; omega)) gX5_hourGone_X5_reckonedWarmth rfl ⟨rfl, rfl⟩ (by decide +kernel) ⟨Nat.le_of_ble_eq_true rfl, Nat.le_of_ble_eq_true rfl⟩ rfl hl.1 rfl (Nat.le_of_ble_eq_true rfl) dX5_hourGone_34 ⟨Nat.zero_le _, Nat.zero_le _⟩ (by rw [ht]; rfl) (fun H locs hG hL => ?_)
        refine m_callP (n := 1) (As := [.int (wAt q s r (h + 1))]) (rest := [.int p]) (st1 := .int (fTa (wAt q s r (h + 1))) :: [.int p]) S.1 (c_X5_lossAt (wAt q s r (h + 1))) gX5_hourGone_X5_lossAt rfl (by decide +kernel) ⟨Nat.le_of_ble_eq_true rfl, Nat.le_of_ble_eq_true rfl⟩ rfl hl.1 rfl (Nat.le_of_ble_eq_true rfl) dX5_hourGone_37 ⟨Nat.zero_le _, Nat.zero_le _⟩ (rfl) ?_
        refine lv_isub hx hb dX5_hourGone_40 ?_
        refine lv_istore (lv' := [(4, .int (p - (fTa (wAt q s r (h + 1))))), (5, .int (h + 1)), (0, .ref (ad 103)), (1, .int a), (2, .int t), (3, .int q)]) hx hb dX5_hourGone_41 hl (by decide) rfl (fun ls hl => ?_)
        refine lv_goto (tgt := 7) hx hb dX5_hourGone_43 (by decide) ?_
        exact ih  (p - (fTa (wAt q s r (h + 1)))) (h + 1) (by rw [← hF]; simp only [goF, eq_false c9, ↓reduceIte]) (by have c := c9; rw [t_le, t_0] at c; omega) (by have q9 := go_p (wAt q s r (h + 1)) c9 hp.2; omega) (by have q9 := go_p (wAt q s r (h + 1)) c9 hp.2; have q8 := go_h c9 hh.1 (by omega); omega) _ _ hG hL _ (lv_sub hl [2, 3, 4, 5, 0, 1] rfl)
  exact LP 61 60 a (rfl) (by decide) (by decide) (by { have z : (60 : Int32).toInt = 60 := rfl; omega }) _ _ hG hL _ (lv_sub hl [2, 3, 4, 5, 1, 0] rfl)

set_option maxHeartbeats 4000000 in
set_option maxRecDepth 100000 in
theorem c_X9_hourGone {l : Launch} {D : va_G} {cI cZ cB cO cR cJ : ClassId} {Hb : Heap} {K : kTx} {lv : Nat → Prop} {ad : Nat → Nat} {ce0 : Nat → va_E} (s : Nat → Int32) (r : Nat → Nat → Int32) (hlv : kL lv s) (j : Nat) (hj : j < (s 39).toNatClampNeg) (hj9 : j < 1000) (q : Int32) (hs : ¬ r 46 j = -1 → 0 ≤ (r 46 j).toInt ∧ (r 46 j).toInt ≤ 743) : kMet l D cI cZ cB cO cR cJ Hb K lv ad ce0 yX9_hourGone wsX9_hourGone 5 113 [.ref (ad 100), .ref (ad (4000 + j)), .int q] s r (some (.int (hgV j q s r))) s r := by
  refine Met.ofW (cc := cX9_hourGone) (maxL := 3) (ret := (some .int)) (by decide) rfl ?_
  intro p0 e0 s0 m0 args below meth c0 s₁ B hml hv
  obtain ⟨rfl, hG, hK, hE⟩ := hv
  have hx := B.exec
  have hb := B.bytes
  have hr := B.returns
  have hts := atoms_spec (ws := wsX9_hourGone) B.pre
  have hown : s0.vm.findClass RX9 = some m0.cls := findClass_of_methodNamed B.named
  have hlocks := B.notSynchronized
  have S : kX p0 m0 c0 cX9_hourGone 3 s0 _ wsX9_hourGone RX9 D (tyL cI cZ cB cO cR cJ) Hb K := ⟨⟨hx, hb, hml, hown, hts⟩, hK, hE⟩
  have hL : gL Hb [] := gL.nil
  have hH := hG.2.2.2.2
  have hl := lv_entry ([.ref (ad 100), .ref (ad (4000 + j)), .int q]) (n := 3) (Nat.le_of_ble_eq_true rfl)
  rw [lg_entry_eq]
  generalize (lg_sl ([.ref (ad 100), .ref (ad (4000 + j)), .int q]) ++ List.replicate (3 - (lg_sl ([.ref (ad 100), .ref (ad (4000 + j)), .int q])).length) Slot.unset).toArray = ls at hl ⊢
  have hl : lv_has ls 3 [(0, .ref (ad 100)), (1, .ref (ad (4000 + j))), (2, .int q)] := hl
  refine lv_aload_n hx hb dX9_hourGone_0 rfl (lv_at hl 1 rfl) ?_
  refine k_giN (C := RX1) (T := TX1) (N := 11) (ci := 2) (v := r 46 j) S hG (fun w h => List.mem_cons_of_mem _ (List.mem_append_left _ (List.mem_append_left _ (List.mem_append_right _ h)))) (4000 + j) (hlv.ca hj) (kJ_ca hj9) rfl 5 (by decide) rfl (by decide +kernel) rfl (rfl) dX9_hourGone_1 ?_
  refine lv_iconst (v := (-1)) hx hb dX9_hourGone_4 (by decide) ?_
  refine lv_icmp_ne (tgt := 12) hx hb dX9_hourGone_5 (by decide) (fun c5 => ?_) (fun c5 => ?_)
  ·
    refine lv_aload_n hx hb dX9_hourGone_12 rfl (lv_at hl 0 rfl) ?_
    refine k_ga (C := RX9) (T := TX9) (N := 14) (ci := 10) (v := .ref (ad 103)) S hG (fun w h => List.mem_cons_of_mem _ (List.mem_append_left _ (List.mem_append_right _ h))) 100 (hlv.f (by decide) (by decide)) rfl rfl 2 (by decide) rfl (hts (.fieldLink RX9 26 "SwarmLine" "sky" "LSwarmLine$Sky;") (by decide +kernel)) rfl dX9_hourGone_13 ?_
    refine lv_aload_n hx hb dX9_hourGone_16 rfl (lv_at hl 1 rfl) ?_
    refine k_giN (C := RX1) (T := TX1) (N := 11) (ci := 2) (v := r 46 j) S hG (fun w h => List.mem_cons_of_mem _ (List.mem_append_left _ (List.mem_append_left _ (List.mem_append_right _ h)))) (4000 + j) (hlv.ca hj) (kJ_ca hj9) rfl 5 (by decide) rfl (by decide +kernel) rfl (rfl) dX9_hourGone_17 ?_
    refine lv_aload_n hx hb dX9_hourGone_20 rfl (lv_at hl 0 rfl) ?_
    refine k_callV (n := 0) (As := []) (rest := [.int (r 46 j), .ref (ad 103)]) (st1 := .int (s 1 / 24) :: [.int (r 46 j), .ref (ad 103)]) (k := 100) (ci := 10) S hG hL (hlv.f (by decide) (by decide)) rfl rfl (c_X9_today s r hlv   ) gX9_hourGone_X9_today rfl ⟨rfl, rfl⟩ (by decide +kernel) ⟨Nat.le_of_ble_eq_true rfl, Nat.le_of_ble_eq_true rfl⟩ rfl hl.1 rfl (Nat.le_of_ble_eq_true rfl) dX9_hourGone_21 ⟨Nat.zero_le _, Nat.zero_le _⟩ (rfl) (fun H locs hG hL => ?_)
    refine lv_iload_n hx hb dX9_hourGone_24 rfl (lv_at hl 2 rfl) ?_
    refine k_callV (n := 3) (As := [.int (r 46 j), .int (s 1 / 24), .int q]) (rest := []) (st1 := .int (fGo (r 46 j) q s r) :: []) (k := 103) (ci := 6) S hG hL (hlv.f (by decide) (by decide)) rfl rfl (c_X5_hourGone s r hlv  (r 46 j) (s 1 / 24) q ((hs c5).1) ((hs c5).2) (rfl)) gX9_hourGone_X5_hourGone rfl ⟨rfl, rfl⟩ (by decide +kernel) ⟨Nat.le_of_ble_eq_true rfl, Nat.le_of_ble_eq_true rfl⟩ rfl hl.1 rfl (Nat.le_of_ble_eq_true rfl) dX9_hourGone_25 ⟨Nat.zero_le _, Nat.zero_le _⟩ (rfl) (fun H locs hG hL => ?_)
    exact g_iret S.1 hr hlocks hG hL (congrArg (fun z => some (Value.int z)) (by simp only [hgV, eq_false c5, if_true, if_false])) (congr (congrArg (kJ ce0 ad K.2.2.1 cI cB cO cR) (by rfl)) (by rfl)) dX9_hourGone_28
  ·
    refine lv_iconst (v := (-1)) hx hb dX9_hourGone_8 (by decide) ?_
    refine lv_goto (tgt := 28) hx hb dX9_hourGone_9 (by decide) ?_
    exact g_iret S.1 hr hlocks hG hL (congrArg (fun z => some (Value.int z)) (by simp only [hgV, eq_true c5, if_true, if_false])) (congr (congrArg (kJ ce0 ad K.2.2.1 cI cB cO cR) (by rfl)) (by rfl)) dX9_hourGone_28

set_option maxHeartbeats 4000000 in
set_option maxRecDepth 100000 in
theorem c_X0_add {l : Launch} {D : va_G} {cI cZ cB cO cR cJ : ClassId} {Hb : Heap} {K : kTx} {lv : Nat → Prop} {ad : Nat → Nat} {ce0 : Nat → va_E} (s : Nat → Int32) (r : Nat → Nat → Int32) (hlv : kL lv s) (k : Int32) (a : Int32) (h0 : 0 ≤ (s 57).toInt) : kMet l D cI cZ cB cO cR cJ Hb K lv ad ce0 yX0_add wsX0_add 0 0 [.ref (ad 104), .int k, .int a] s r none (aaS s) (aaR k a s r) := by
  refine Met.ofW (cc := cX0_add) (maxL := 3) (ret := none) (by decide) rfl ?_
  intro p0 e0 s0 m0 args below meth c0 s₁ B hml hv
  obtain ⟨rfl, hG, hK, hE⟩ := hv
  have hx := B.exec
  have hb := B.bytes
  have hr := B.returns
  have hts := atoms_spec (ws := wsX0_add) B.pre
  have hown : s0.vm.findClass RX0 = some m0.cls := findClass_of_methodNamed B.named
  have hlocks := B.notSynchronized
  have S : kX p0 m0 c0 cX0_add 3 s0 _ wsX0_add RX0 D (tyL cI cZ cB cO cR cJ) Hb K := ⟨⟨hx, hb, hml, hown, hts⟩, hK, hE⟩
  have hL : gL Hb [] := gL.nil
  have hH := hG.2.2.2.2
  have hl := lv_entry ([.ref (ad 104), .int k, .int a]) (n := 3) (Nat.le_of_ble_eq_true rfl)
  rw [lg_entry_eq]
  generalize (lg_sl ([.ref (ad 104), .int k, .int a]) ++ List.replicate (3 - (lg_sl ([.ref (ad 104), .int k, .int a])).length) Slot.unset).toArray = ls at hl ⊢
  have hl : lv_has ls 3 [(0, .ref (ad 104)), (1, .int k), (2, .int a)] := hl
  refine lv_aload_n hx hb dX0_add_0 rfl (lv_at hl 0 rfl) ?_
  refine k_gi (C := RX0) (T := TX0) (N := 3) (ci := 1) (v := s 57) S hG (fun w h => List.mem_cons_of_mem _ (List.mem_append_right _ h)) 104 (hlv.f (by decide) (by decide)) rfl rfl 2 (by decide) rfl (hts (.fieldLink RX0 18 "SwarmLine$Asked" "many" "I") (by decide +kernel)) rfl (rfl) dX0_add_1 ?_
  refine lv_bipush (v := 12) hx hb dX0_add_4 (by decide) ?_
  refine lv_icmp_ge (tgt := 39) hx hb dX0_add_6 (by decide) (fun c6 => ?_) (fun c6 => ?_)
  ·
    exact g_vret S.1 hr hlocks hG hL rfl (congr (congrArg (kJ ce0 ad K.2.2.1 cI cB cO cR) (by simp only [aaS, eq_true c6, if_true, if_false])) (by simp only [aaR, eq_true c6, if_true, if_false])) dX0_add_39
  ·
    refine lv_aload_n hx hb dX0_add_9 rfl (lv_at hl 0 rfl) ?_
    refine k_ga (C := RX0) (T := TX0) (N := 3) (ci := 1) (v := .ref (ad 117)) S hG (fun w h => List.mem_cons_of_mem _ (List.mem_append_right _ h)) 104 (hlv.f (by decide) (by decide)) rfl rfl 0 (by decide) rfl (hts (.fieldLink RX0 9 "SwarmLine$Asked" "numbers" "[I") (by decide +kernel)) rfl dX0_add_10 ?_
    refine lv_aload_n hx hb dX0_add_13 rfl (lv_at hl 0 rfl) ?_
    refine k_gi (C := RX0) (T := TX0) (N := 3) (ci := 1) (v := s 57) S hG (fun w h => List.mem_cons_of_mem _ (List.mem_append_right _ h)) 104 (hlv.f (by decide) (by decide)) rfl rfl 2 (by decide) rfl (hts (.fieldLink RX0 18 "SwarmLine$Asked" "many" "I") (by decide +kernel)) rfl (rfl) dX0_add_14 ?_
    refine lv_iload_n hx hb dX0_add_17 rfl (lv_at hl 1 rfl) ?_
    refine k_ist (j := Int32.toNatClampNeg (s 57)) S hG hL 117 (hlv.f (by decide) (by decide)) rfl rfl (show vp_in (s 57) 12 from vp_in_t h0 (by have c := c6; rw [t_le] at c; have z : (12 : Int32).toInt = 12 := rfl; omega)) (kw_117 _ _) dX0_add_18 (fun H locs hG hL => ?_)
    refine lv_aload_n hx hb dX0_add_19 rfl (lv_at hl 0 rfl) ?_
    refine k_ga (C := RX0) (T := TX0) (N := 3) (ci := 1) (v := .ref (ad 118)) S hG (fun w h => List.mem_cons_of_mem _ (List.mem_append_right _ h)) 104 (hlv.f (by decide) (by decide)) rfl rfl 1 (by decide) rfl (hts (.fieldLink RX0 15 "SwarmLine$Asked" "against" "[I") (by decide +kernel)) rfl dX0_add_20 ?_
    refine lv_aload_n hx hb dX0_add_23 rfl (lv_at hl 0 rfl) ?_
    refine k_gi (C := RX0) (T := TX0) (N := 3) (ci := 1) (v := s 57) S hG (fun w h => List.mem_cons_of_mem _ (List.mem_append_right _ h)) 104 (hlv.f (by decide) (by decide)) rfl rfl 2 (by decide) rfl (hts (.fieldLink RX0 18 "SwarmLine$Asked" "many" "I") (by decide +kernel)) rfl (rfl) dX0_add_24 ?_
    refine lv_iload_n hx hb dX0_add_27 rfl (lv_at hl 2 rfl) ?_
    refine k_ist (j := Int32.toNatClampNeg (s 57)) S hG hL 118 (hlv.f (by decide) (by decide)) rfl rfl (show vp_in (s 57) 12 from vp_in_t h0 (by have c := c6; rw [t_le] at c; have z : (12 : Int32).toInt = 12 := rfl; omega)) (kw_118 _ _) dX0_add_28 (fun H locs hG hL => ?_)
    refine lv_aload_n hx hb dX0_add_29 rfl (lv_at hl 0 rfl) ?_
    refine lv_dup hx hb dX0_add_30 rfl ?_
    refine k_gi (C := RX0) (T := TX0) (N := 3) (ci := 1) (v := s 57) S hG (fun w h => List.mem_cons_of_mem _ (List.mem_append_right _ h)) 104 (hlv.f (by decide) (by decide)) rfl rfl 2 (by decide) rfl (hts (.fieldLink RX0 18 "SwarmLine$Asked" "many" "I") (by decide +kernel)) rfl (rfl) dX0_add_31 ?_
    refine lv_iconst (v := 1) hx hb dX0_add_34 (by decide) ?_
    refine lv_iadd hx hb dX0_add_35 ?_
    refine k_pi (C := RX0) (T := TX0) (N := 3) (ci := 1) (ty := .int) S hG hL (fun w h => List.mem_cons_of_mem _ (List.mem_append_right _ h)) tyX0 tyX0_ok nmX0 104 (hlv.f (by decide) (by decide)) rfl rfl 2 (by decide) rfl (hts (.fieldLink RX0 18 "SwarmLine$Asked" "many" "I") (by decide +kernel)) rfl (by decide +kernel) rfl rfl (Nat.le_of_ble_eq_true rfl) (kw_104_many _) dX0_add_36 (fun H locs hG hL => ?_)
    exact g_vret S.1 hr hlocks hG hL rfl (congr (congrArg (kJ ce0 ad K.2.2.1 cI cB cO cR) (by simp only [aaS, eq_false c6, if_true, if_false])) (by simp only [aaR, eq_false c6, if_true, if_false])) dX0_add_39

set_option maxHeartbeats 4000000 in
set_option maxRecDepth 100000 in
theorem c_X9_closeText {l : Launch} {D : va_G} {cI cZ cB cO cR cJ : ClassId} {Hb : Heap} {K : kTx} {lv : Nat → Prop} {ad : Nat → Nat} {ce0 : Nat → va_E} (s : Nat → Int32) (r : Nat → Nat → Int32) (hlv : kL lv s) (ok : Int32) (h0 : 0 ≤ (s 61).toInt) : kMet l D cI cZ cB cO cR cJ Hb K lv ad ce0 yX9_closeText wsX9_closeText 1 21 [.ref (ad 100), .int ok] s r none (ctS ok s) r := by
  refine Met.ofW (cc := cX9_closeText) (maxL := 2) (ret := none) (by decide) rfl ?_
  intro p0 e0 s0 m0 args below meth c0 s₁ B hml hv
  obtain ⟨rfl, hG, hK, hE⟩ := hv
  have hx := B.exec
  have hb := B.bytes
  have hr := B.returns
  have hts := atoms_spec (ws := wsX9_closeText) B.pre
  have hown : s0.vm.findClass RX9 = some m0.cls := findClass_of_methodNamed B.named
  have hlocks := B.notSynchronized
  have S : kX p0 m0 c0 cX9_closeText 2 s0 _ wsX9_closeText RX9 D (tyL cI cZ cB cO cR cJ) Hb K := ⟨⟨hx, hb, hml, hown, hts⟩, hK, hE⟩
  have hL : gL Hb [] := gL.nil
  have hH := hG.2.2.2.2
  have hl := lv_entry ([.ref (ad 100), .int ok]) (n := 2) (Nat.le_of_ble_eq_true rfl)
  rw [lg_entry_eq]
  generalize (lg_sl ([.ref (ad 100), .int ok]) ++ List.replicate (2 - (lg_sl ([.ref (ad 100), .int ok])).length) Slot.unset).toArray = ls at hl ⊢
  have hl : lv_has ls 2 [(0, .ref (ad 100)), (1, .int ok)] := hl
  refine lv_aload_n hx hb dX9_closeText_0 rfl (lv_at hl 0 rfl) ?_
  refine lv_iload_n hx hb dX9_closeText_1 rfl (lv_at hl 1 rfl) ?_
  refine lv_if_eq (tgt := 9) hx hb dX9_closeText_2 (by decide) (fun c2 => ?_) (fun c2 => ?_)
  ·
    refine lv_aload_n hx hb dX9_closeText_9 rfl (lv_at hl 0 rfl) ?_
    refine k_ga (C := RX9) (T := TX9) (N := 14) (ci := 10) (v := .ref (ad 101)) S hG (fun w h => List.mem_cons_of_mem _ (List.mem_append_left _ (List.mem_append_right _ h))) 100 (hlv.f (by decide) (by decide)) rfl rfl 0 (by decide) rfl (hts (.fieldLink RX9 10 "SwarmLine" "tape" "LSwarmLine$Tape;") (by decide +kernel)) rfl dX9_closeText_10 ?_
    refine k_giN (C := RX7) (T := TX7) (N := 5) (ci := 8) (v := s 101) S hG (fun w h => List.mem_cons_of_mem _ (List.mem_append_right _ h)) 101 (hlv.f (by decide) (by decide)) rfl rfl 2 (by decide) rfl (by decide +kernel) rfl (rfl) dX9_closeText_13 ?_
    refine k_pi (C := RX9) (T := TX9) (N := 14) (ci := 10) (ty := .int) S hG hL (fun w h => List.mem_cons_of_mem _ (List.mem_append_left _ (List.mem_append_right _ h))) tyX9 tyX9_ok nmX9 100 (hlv.f (by decide) (by decide)) rfl rfl 13 (by decide) rfl (hts (.fieldLink RX9 74 "SwarmLine" "wrongByte" "I") (by decide +kernel)) rfl (by decide +kernel) rfl rfl (Nat.le_of_ble_eq_true rfl) (kw_100_wrongByte _) dX9_closeText_16 (fun H locs hG hL => ?_)
    refine lv_aload_n hx hb dX9_closeText_19 rfl (lv_at hl 0 rfl) ?_
    refine k_ga (C := RX9) (T := TX9) (N := 14) (ci := 10) (v := .ref (ad 101)) S hG (fun w h => List.mem_cons_of_mem _ (List.mem_append_left _ (List.mem_append_right _ h))) 100 (hlv.f (by decide) (by decide)) rfl rfl 0 (by decide) rfl (hts (.fieldLink RX9 10 "SwarmLine" "tape" "LSwarmLine$Tape;") (by decide +kernel)) rfl dX9_closeText_20 ?_
    refine lv_iconst (v := 0) hx hb dX9_closeText_23 (by decide) ?_
    refine k_callV (n := 1) (As := [.int 0]) (rest := []) (st1 := .int (vCt 0 (upd s 64 (s 101))) :: []) (k := 101) (ci := 8) S hG hL (hlv.f (by decide) (by decide)) rfl rfl (c_X7_cutTo (upd s 64 (s 101)) r hlv  0 ) gX9_closeText_X7_cutTo rfl ⟨rfl, rfl⟩ (by decide +kernel) ⟨Nat.le_of_ble_eq_true rfl, Nat.le_of_ble_eq_true rfl⟩ rfl hl.1 rfl (Nat.le_of_ble_eq_true rfl) dX9_closeText_24 ⟨Nat.zero_le _, Nat.zero_le _⟩ (rfl) (fun H locs hG hL => ?_)
    refine lv_pop hx hb dX9_closeText_27 rfl ?_
    exact g_vret S.1 hr hlocks hG hL rfl (congr (congrArg (kJ ce0 ad K.2.2.1 cI cB cO cR) (by rw [sCt_0 (by exact h0)]; simp only [ctS, eq_true c2, if_true, if_false])) (by rfl)) dX9_closeText_28
  ·
    refine lv_iconst (v := (-1)) hx hb dX9_closeText_5 (by decide) ?_
    refine lv_goto (tgt := 16) hx hb dX9_closeText_6 (by decide) ?_
    refine k_pi (C := RX9) (T := TX9) (N := 14) (ci := 10) (ty := .int) S hG hL (fun w h => List.mem_cons_of_mem _ (List.mem_append_left _ (List.mem_append_right _ h))) tyX9 tyX9_ok nmX9 100 (hlv.f (by decide) (by decide)) rfl rfl 13 (by decide) rfl (hts (.fieldLink RX9 74 "SwarmLine" "wrongByte" "I") (by decide +kernel)) rfl (by decide +kernel) rfl rfl (Nat.le_of_ble_eq_true rfl) (kw_100_wrongByte _) dX9_closeText_16 (fun H locs hG hL => ?_)
    refine lv_aload_n hx hb dX9_closeText_19 rfl (lv_at hl 0 rfl) ?_
    refine k_ga (C := RX9) (T := TX9) (N := 14) (ci := 10) (v := .ref (ad 101)) S hG (fun w h => List.mem_cons_of_mem _ (List.mem_append_left _ (List.mem_append_right _ h))) 100 (hlv.f (by decide) (by decide)) rfl rfl 0 (by decide) rfl (hts (.fieldLink RX9 10 "SwarmLine" "tape" "LSwarmLine$Tape;") (by decide +kernel)) rfl dX9_closeText_20 ?_
    refine lv_iconst (v := 0) hx hb dX9_closeText_23 (by decide) ?_
    refine k_callV (n := 1) (As := [.int 0]) (rest := []) (st1 := .int (vCt 0 (upd s 64 (-1))) :: []) (k := 101) (ci := 8) S hG hL (hlv.f (by decide) (by decide)) rfl rfl (c_X7_cutTo (upd s 64 (-1)) r hlv  0 ) gX9_closeText_X7_cutTo rfl ⟨rfl, rfl⟩ (by decide +kernel) ⟨Nat.le_of_ble_eq_true rfl, Nat.le_of_ble_eq_true rfl⟩ rfl hl.1 rfl (Nat.le_of_ble_eq_true rfl) dX9_closeText_24 ⟨Nat.zero_le _, Nat.zero_le _⟩ (rfl) (fun H locs hG hL => ?_)
    refine lv_pop hx hb dX9_closeText_27 rfl ?_
    exact g_vret S.1 hr hlocks hG hL rfl (congr (congrArg (kJ ce0 ad K.2.2.1 cI cB cO cR) (by rw [sCt_0 (by exact h0)]; simp only [ctS, eq_false c2, if_true, if_false])) (by rfl)) dX9_closeText_28
