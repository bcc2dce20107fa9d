/-! a keeper's way; a text's bytes -/
def xLe (c : Int32) (s : Nat → Int32) : Option String := xNm (s 39) c
def xOg (k : Int32) (s : Nat → Int32) (r : Nat → Nat → Int32) : Option String := if fIs (s 14) k = 0 then some "java/lang/IndexOutOfBoundsException" else if r 15 (Int32.toNatClampNeg k) = 1 then none else some "java/lang/IllegalStateException"
/-- the hive that agrees, -1 if none or more than one -/
def koF (sw : Nat) (mk : Int32) (r : Nat → Nat → Int32) : Nat → Nat → Int32 → Int32
  | 0, _, f => f
  | n + 1, i, f => if kAw i sw mk r = 0 then koF sw mk r n (i + 1) f else if f = -1 then koF sw mk r n (i + 1) (nI i) else -1
def koV (k : Int32) (s : Nat → Int32) (r : Nat → Nat → Int32) : Int32 := koF (Int32.toNatClampNeg k) (r 47 (Int32.toNatClampNeg (r 25 (Int32.toNatClampNeg k)))) r (s 6).toNatClampNeg 0 (-1)
def wcF (i : Nat) (s : Nat → Int32) (r : Nat → Nat → Int32) : Int32 := (nsF (r 42 (Int32.toNatClampNeg (r 37 i))) (r 43 (Int32.toNatClampNeg (r 37 i))) r (s 14).toNatClampNeg).1
def wcR (k : Int32) (i : Nat) (s : Nat → Int32) (r : Nat → Nat → Int32) : Nat → Nat → Int32 :=
  if wcF i s r = -1 then up2 r 41 (Int32.toNatClampNeg (r 37 i)) 3
  else if r 20 (Int32.toNatClampNeg (wcF i s r)) ≤ r 30 i then
    up2 (up2 (up2 (up2 (up2 (up2 (up2 (up2 r 15 (Int32.toNatClampNeg (wcF i s r)) 1) 23 (Int32.toNatClampNeg (wcF i s r)) k) 25 (Int32.toNatClampNeg (wcF i s r)) (r 37 i)) 24 (Int32.toNatClampNeg (wcF i s r)) (s 1)) 29 i (r 29 i - 1)) 38 i (r 38 i + 1)) 41 (Int32.toNatClampNeg (r 37 i)) 2) 51 (Int32.toNatClampNeg (r 37 i)) (wcF i s r)
  else up2 (up2 r 41 (Int32.toNatClampNeg (r 37 i)) 0) 45 (Int32.toNatClampNeg (r 37 i)) (if r 45 (Int32.toNatClampNeg (r 37 i)) < r 20 (Int32.toNatClampNeg (wcF i s r)) then r 20 (Int32.toNatClampNeg (wcF i s r)) else r 45 (Int32.toNatClampNeg (r 37 i)))
theorem nsF_b (x y : Int32) (r : Nat → Nat → Int32) : ∀ n, (nsF x y r n).1 = -1 ∨ ∃ j, j < n ∧ (nsF x y r n).1 = nI j
  | 0 => Or.inl rfl
  | n + 1 => by
    have up : (nsF x y r n).1 = -1 ∨ ∃ j, j < n + 1 ∧ (nsF x y r n).1 = nI j := by
      rcases nsF_b x y r n with h | ⟨j, h1, h2⟩
      · exact Or.inl h
      · exact Or.inr ⟨j, by omega, h2⟩
    unfold nsF
    split
    · split
      · exact up
      · exact Or.inr ⟨n, by omega, rfl⟩
    · exact up
theorem nsF_in {x y : Int32} {r : Nat → Nat → Int32} {n : Int32} (h0 : 0 ≤ n.toInt) (hn : n.toInt ≤ 60) (h : ¬ (nsF x y r n.toNatClampNeg).1 = -1) : 0 ≤ (nsF x y r n.toNatClampNeg).1.toInt ∧ (nsF x y r n.toNatClampNeg).1.toInt < n.toInt := by
  have a := t_ix h0
  rcases nsF_b x y r n.toNatClampNeg with q | ⟨j, h1, h2⟩
  · exact absurd q h
  · rw [h2, nI_toInt (by omega)]; omega
theorem wcF_in {i : Nat} {s : Nat → Int32} {r : Nat → Nat → Int32} (h0 : 0 ≤ (s 14).toInt) (hn : (s 14).toInt ≤ 60) (h : ¬ wcF i s r = -1) : 0 ≤ (wcF i s r).toInt ∧ (wcF i s r).toInt < (s 14).toInt := nsF_in h0 hn h
theorem b8_and (x : Int32) : (x &&& 255).toInt8 = x.toInt8 := by
  rw [Int32.toInt8_and, show (255 : Int32).toInt8 = -1 from rfl]
  first | exact Int8.and_neg_one | simp
theorem b8_tw (x : Int32) : vp_nar .byte x.toInt8.toInt32 = x.toInt8.toInt32 := by
  show x.toInt8.toInt32.toInt8.toInt32 = x.toInt8.toInt32
  first | rw [Int8.toInt8_toInt32] | simp
def mvR (i : Nat) (s : Nat → Int32) (r : Nat → Nat → Int32) : Nat → Nat → Int32 := if r 34 i = 0 then r else if r 35 i - 1 ≤ 0 then (if r 34 i = 2 then up2 (up2 (up2 r 35 i (r 35 i - 1)) 34 i 0) 37 i (-1) else up2 (up2 (wcR (nI i) i s (up2 r 35 i (r 35 i - 1))) 34 i 2) 35 i (wcR (nI i) i s (up2 r 35 i (r 35 i - 1)) 36 i)) else up2 r 35 i (r 35 i - 1)
theorem fGo_wc : True := trivial
theorem b8_st (r : Nat → Nat → Int32) (i : Nat) (x : Int32) {ce0 : Nat → va_E} {ad : Nat → Nat} {eA : Nat} {cI cB cO cR : ClassId} {s : Nat → Int32} : va_up (kJ ce0 ad eA cI cB cO cR s r) 112 (.inl (cB, 400, .inl (upd (fun i => (r 60 i).toInt8.toInt32) i (vp_nar .byte x.toInt8.toInt32)))) = kJ ce0 ad eA cI cB cO cR s (up2 r 60 i (x &&& 255)) := by
  refine kJ_up ?_ (fun k hk => kJ_seg k ?_ (fun h => up2_nn _ _ _ (by omega)) rfl (fun _ _ => rfl) (fun _ _ => rfl) (fun _ _ => rfl) (fun _ _ => rfl))
  · show Sum.inl (cB, 400, Sum.inl (fun j => (up2 r 60 i (x &&& 255) 60 j).toInt8.toInt32)) = _
    congr 4
    funext j
    by_cases e : j = i
    · subst e
      rw [up2_ss]
      show (x &&& 255).toInt8.toInt32 = upd _ j _ j
      rw [b8_and, b8_tw]
      simp [upd]
    · rw [up2_sn _ _ _ e]
      simp [upd, e]
  · unfold kFx
    rw [if_neg hk, if_neg hk]
    rfl

set_option maxHeartbeats 4000000 in
set_option maxRecDepth 100000 in
theorem c_X9_left {l : Launch} {D : va_G} {cI cZ cB cO cR cJ : ClassId} {Hb : Heap} {K : kTx} {lv : Nat → Prop} {ad : Nat → Nat} {ce0 : Nat → va_E} (hst : l.stackTraces = false) (s : Nat → Int32) (r : Nat → Nat → Int32) (hlv : kL lv s) (c : Int32) (q : Int32) (hb9 : (s 39).toInt ≤ 60) (hs : ∀ j, j < (s 39).toNatClampNeg → ¬ r 46 j = -1 → 0 ≤ (r 46 j).toInt ∧ (r 46 j).toInt ≤ 743) : xMet l D cI cZ cB cO cR cJ Hb K lv ad ce0 yX9_left wsX9_left 7 135 1 [.ref (ad 100), .int c, .int q] s r (xLe c s) (some (.int (hgV (Int32.toNatClampNeg c) q s r))) s r s r := by
  refine vx_ofW (cc := cX9_left) (maxL := 3) (ret := (some .int)) (by decide) rfl ?_
  intro p0 e0 s0 m0 args below meth c0 s₁ B hml hout hv
  obtain ⟨rfl, hG, hK, hE⟩ := hv
  have hx := B.exec
  have hb := B.bytes
  have hr := B.returns
  have hts := atoms_spec (ws := wsX9_left) B.pre
  have hown : s0.vm.findClass RX9 = some m0.cls := findClass_of_methodNamed B.named
  have hlocks := B.notSynchronized
  have S : kX p0 m0 c0 cX9_left 3 s0 _ wsX9_left RX9 D (tyL cI cZ cB cO cR cJ) Hb K := ⟨⟨hx, hb, hml, hown, hts⟩, hK, hE⟩
  have hL : gL Hb [] := gL.nil
  have hH := hG.2.2.2.2
  have hl := lv_entry ([.ref (ad 100), .int c, .int q]) (n := 3) (Nat.le_of_ble_eq_true rfl)
  rw [lg_entry_eq]
  generalize (lg_sl ([.ref (ad 100), .int c, .int q]) ++ List.replicate (3 - (lg_sl ([.ref (ad 100), .int c, .int q])).length) Slot.unset).toArray = ls at hl ⊢
  have hl : lv_has ls 3 [(0, .ref (ad 100)), (1, .int c), (2, .int q)] := hl
  refine lv_aload_n hx hb dX9_left_0 rfl (lv_at hl 0 rfl) ?_
  refine lv_aload_n hx hb dX9_left_1 rfl (lv_at hl 0 rfl) ?_
  refine lv_iload_n hx hb dX9_left_2 rfl (lv_at hl 1 rfl) ?_
  refine x_callV (n := 1) (As := [.int c]) (rest := [.ref (ad 100)]) (st1 := .ref (ad (4000 + Int32.toNatClampNeg c)) :: [.ref (ad 100)]) (k := 100) (ci := 10) S hG hL (hlv.f (by decide) (by decide)) rfl rfl (c_X9_caseNumbered hst s r hlv  c (hb9)) gX9_left_X9_caseNumbered rfl ⟨rfl, rfl⟩ (by decide +kernel) ⟨Nat.le_of_ble_eq_true rfl, Nat.le_of_ble_eq_true rfl⟩ rfl hl.1 rfl (Nat.le_of_ble_eq_true rfl) dX9_left_3 ⟨Nat.le_of_ble_eq_true rfl, Nat.le_of_ble_eq_true rfl⟩ hout hlocks (fun E9 h9 => ⟨h9, rfl⟩) ⟨Nat.le_of_ble_eq_true rfl, Nat.le_of_ble_eq_true rfl⟩ (rfl) (fun ht3 H locs hG hL => ?_)
  refine lv_iload_n hx hb dX9_left_6 rfl (lv_at hl 2 rfl) ?_
  refine k_callV (n := 2) (As := [.ref (ad (4000 + Int32.toNatClampNeg c)), .int q]) (rest := []) (st1 := .int (hgV (Int32.toNatClampNeg c) q s r) :: []) (k := 100) (ci := 10) S hG hL (hlv.f (by decide) (by decide)) rfl rfl (c_X9_hourGone s r hlv  (Int32.toNatClampNeg c) (xNm_lt ht3) (xNm_9 ht3 hb9) q (hs _ (xNm_lt ht3))) gX9_left_X9_hourGone rfl ⟨rfl, rfl⟩ (by decide +kernel) ⟨Nat.le_of_ble_eq_true rfl, Nat.le_of_ble_eq_true rfl⟩ rfl hl.1 rfl (Nat.le_of_ble_eq_true rfl) dX9_left_7 ⟨Nat.le_of_ble_eq_true rfl, Nat.le_of_ble_eq_true rfl⟩ (rfl) (fun H locs hG hL => ?_)
  exact x_iret S.1 hr hlocks hG hL (by exact ht3) (congrArg (fun z => some (Value.int z)) (by rfl)) (congr (congrArg (kJ ce0 ad K.2.2.1 cI cB cO cR) (by rfl)) (by rfl)) dX9_left_10 (Nat.le_of_ble_eq_true rfl) (Nat.le_of_ble_eq_true rfl)

set_option maxHeartbeats 4000000 in
set_option maxRecDepth 100000 in
theorem c_X9_keepersWhoCouldGo {l : Launch} {D : va_G} {cI cZ cB cO cR cJ : ClassId} {Hb : Heap} {K : kTx} {lv : Nat → Prop} {ad : Nat → Nat} {ce0 : Nat → va_E} (s : Nat → Int32) (r : Nat → Nat → Int32) (hlv : kL lv s) (j : Nat) (hj : j < (s 39).toNatClampNeg) (hj9 : j < 1000) (h0 : 0 ≤ (s 26).toInt) (h1 : (s 26).toInt ≤ 12) (hs : ¬ r 46 j = -1 → 0 ≤ (r 46 j).toInt ∧ (r 46 j).toInt ≤ 743) (hd : ∀ i, i < (s 26).toNatClampNeg → (kSt (r 27 i) (r 28 i) (r 42 j) (r 43 j)).toInt ≤ 19) : kMet l D cI cZ cB cO cR cJ Hb K lv ad ce0 yX9_keepersWhoCouldGo wsX9_keepersWhoCouldGo 6 135 [.ref (ad 100), .ref (ad (4000 + j))] s r (some (.int (kwF j s r (s 26).toNatClampNeg))) s r := by
  refine Met.ofW (cc := cX9_keepersWhoCouldGo) (maxL := 6) (ret := (some .int)) (by decide) rfl ?_
  intro p0 e0 s0 m0 args below meth c0 s₁ B hml hv
  obtain ⟨rfl, hG, hK, hE⟩ := hv
  have hx := B.exec
  have hb := B.bytes
  have hr := B.returns
  have hts := atoms_spec (ws := wsX9_keepersWhoCouldGo) B.pre
  have hown : s0.vm.findClass RX9 = some m0.cls := findClass_of_methodNamed B.named
  have hlocks := B.notSynchronized
  have S : kX p0 m0 c0 cX9_keepersWhoCouldGo 6 s0 _ wsX9_keepersWhoCouldGo RX9 D (tyL cI cZ cB cO cR cJ) Hb K := ⟨⟨hx, hb, hml, hown, hts⟩, hK, hE⟩
  have hL : gL Hb [] := gL.nil
  have hH := hG.2.2.2.2
  have hl := lv_entry ([.ref (ad 100), .ref (ad (4000 + j))]) (n := 6) (Nat.le_of_ble_eq_true rfl)
  rw [lg_entry_eq]
  generalize (lg_sl ([.ref (ad 100), .ref (ad (4000 + j))]) ++ List.replicate (6 - (lg_sl ([.ref (ad 100), .ref (ad (4000 + j))])).length) Slot.unset).toArray = ls at hl ⊢
  have hl : lv_has ls 6 [(0, .ref (ad 100)), (1, .ref (ad (4000 + j)))] := hl
  refine lv_aload_n hx hb dX9_keepersWhoCouldGo_0 rfl (lv_at hl 0 rfl) ?_
  refine lv_aload_n hx hb dX9_keepersWhoCouldGo_1 rfl (lv_at hl 1 rfl) ?_
  refine lv_iconst (v := 1) hx hb dX9_keepersWhoCouldGo_2 (by decide) ?_
  refine k_callV (n := 2) (As := [.ref (ad (4000 + j)), .int 1]) (rest := []) (st1 := .int (hgV j 1 s r) :: []) (k := 100) (ci := 10) S hG hL (hlv.f (by decide) (by decide)) rfl rfl (c_X9_hourGone s r hlv  j hj hj9 1 (hs)) gX9_keepersWhoCouldGo_X9_hourGone rfl ⟨rfl, rfl⟩ (by decide +kernel) ⟨Nat.le_of_ble_eq_true rfl, Nat.le_of_ble_eq_true rfl⟩ rfl hl.1 rfl (Nat.le_of_ble_eq_true rfl) dX9_keepersWhoCouldGo_3 ⟨Nat.zero_le _, Nat.zero_le _⟩ (rfl) (fun H locs hG hL => ?_)
  refine lv_istore_n (lv' := [(2, .int (hgV j 1 s r)), (0, .ref (ad 100)), (1, .ref (ad (4000 + j)))]) hx hb dX9_keepersWhoCouldGo_6 rfl hl (by decide) rfl (fun ls hl => ?_)
  refine lv_iconst (v := 0) hx hb dX9_keepersWhoCouldGo_7 (by decide) ?_
  refine lv_istore_n (lv' := [(3, .int 0), (2, .int (hgV j 1 s r)), (0, .ref (ad 100)), (1, .ref (ad (4000 + j)))]) hx hb dX9_keepersWhoCouldGo_8 rfl hl (by decide) rfl (fun ls hl => ?_)
  refine lv_iconst (v := 0) hx hb dX9_keepersWhoCouldGo_9 (by decide) ?_
  refine lv_istore (lv' := [(4, .int 0), (3, .int 0), (2, .int (hgV j 1 s r)), (0, .ref (ad 100)), (1, .ref (ad (4000 + j)))]) hx hb dX9_keepersWhoCouldGo_10 hl (by decide) rfl (fun ls hl => ?_)
  have LP : ∀ (n : Nat) (i : Nat) (x : Int32) (a : Int32) (ex : x = nI i) (hi : i ≤ (s 26).toNatClampNeg) (hn : (s 26).toNatClampNeg + 1 ≤ i + n) (ha : a = kwF j s r i), ∀ (H : Heap) (locs : List Loc), gW D Hb lv ad (kJ ce0 ad K.2.2.1 cI cB cO cR s r) H → gL Hb locs → ∀ (ls : Array Slot), lv_has ls 6 [(0, .ref (ad 100)), (1, .ref (ad (4000 + j))), (2, .int (hgV j 1 s r)), (3, .int a), (4, .int x)] → W p0 l e0 (headSpec wsX9_keepersWhoCouldGo { frames := 6, cells := 0, slots := 0, locals := 135 }).room s0 m0 ([.ref (ad 100), .ref (ad (4000 + j))] : List Value).toArray below meth c0 H locs 0 0 (MQ below (gQ D Hb lv ad (some (.int (kwF j s r (s 26).toNatClampNeg))) (kJ ce0 ad K.2.2.1 cI cB cO cR s r)) ([.ref (ad 100), .ref (ad (4000 + j))] : List Value).toArray s0 0 0 (gA Hb)) (F0 m0 12 ls []) := by
    intro n
    induction n with
    | zero => intro i x a ex hi hn ha; exact absurd hn (by omega)
    | succ n ih =>
      intro i x a ex hi hn ha H locs hG hL ls hl
      have hbd : (s 26).toNatClampNeg ≤ 12 := t_ixl h0 h1; have hii : Int32.toNatClampNeg x = i := by { rw [ex]; exact ix_nI (by omega) }
      refine lv_iload hx hb dX9_keepersWhoCouldGo_12 (lv_at hl 4 rfl) ?_
      refine lv_aload_n hx hb dX9_keepersWhoCouldGo_14 rfl (lv_at hl 0 rfl) ?_
      refine k_ga (C := RX9) (T := TX9) (N := 14) (ci := 10) (v := .ref (ad 107)) S hG (fun w h => List.mem_cons_of_mem _ (List.mem_append_left _ (List.mem_append_left _ (List.mem_append_left _ (List.mem_append_left _ (List.mem_append_right _ h)))))) 100 (hlv.f (by decide) (by decide)) rfl rfl 6 (by decide) rfl (hts (.fieldLink RX9 47 "SwarmLine" "keepers" "Ljava/util/ArrayList;") (by decide +kernel)) rfl dX9_keepersWhoCouldGo_15 ?_
      refine k_callV (n := 0) (As := []) (rest := [.int x]) (st1 := .int (s 26) :: [.int x]) (k := 107) (ci := 0) S hG hL (hlv.f (by decide) (by decide)) rfl rfl (c_size2 s r hlv   ) gX9_keepersWhoCouldGo_Jx4a65c_size_8abf5 rfl ⟨rfl, rfl⟩ (by decide +kernel) ⟨Nat.le_of_ble_eq_true rfl, Nat.le_of_ble_eq_true rfl⟩ rfl hl.1 rfl (Nat.le_of_ble_eq_true rfl) dX9_keepersWhoCouldGo_18 ⟨Nat.zero_le _, Nat.zero_le _⟩ (rfl) (fun H locs hG hL => ?_)
      refine lv_icmp_ge (tgt := 88) hx hb dX9_keepersWhoCouldGo_21 (by decide) (fun c21 => ?_) (fun c21 => ?_)
      ·
        have hEq := cl_ge h0 hi (ex ▸ c21)
        refine lv_iload_n hx hb dX9_keepersWhoCouldGo_88 rfl (lv_at hl 3 rfl) ?_
        exact g_iret S.1 hr hlocks hG hL (congrArg (fun z => some (Value.int z)) (by rw [ha, hEq])) (congr (congrArg (kJ ce0 ad K.2.2.1 cI cB cO cR) (by rfl)) (by rfl)) dX9_keepersWhoCouldGo_89
      ·
        have hlt := cl_lt h0 hi (ex ▸ c21)
        refine lv_aload_n hx hb dX9_keepersWhoCouldGo_24 rfl (lv_at hl 0 rfl) ?_
        refine k_ga (C := RX9) (T := TX9) (N := 14) (ci := 10) (v := .ref (ad 107)) S hG (fun w h => List.mem_cons_of_mem _ (List.mem_append_left _ (List.mem_append_left _ (List.mem_append_left _ (List.mem_append_left _ (List.mem_append_right _ h)))))) 100 (hlv.f (by decide) (by decide)) rfl rfl 6 (by decide) rfl (hts (.fieldLink RX9 47 "SwarmLine" "keepers" "Ljava/util/ArrayList;") (by decide +kernel)) rfl dX9_keepersWhoCouldGo_25 ?_
        refine lv_iload hx hb dX9_keepersWhoCouldGo_28 (lv_at hl 4 rfl) ?_
        refine k_callV (n := 1) (As := [.int x]) (rest := []) (st1 := .ref (ad (3000 + i)) :: []) (k := 107) (ci := 0) S hG hL (hlv.f (by decide) (by decide)) rfl rfl (c_get2 s r hlv  x (g_x0 ex (by omega)) (g_x1 ex hlt (by omega) h0) (by omega)) gX9_keepersWhoCouldGo_Jx4a65c_get_915e3 rfl ⟨rfl, rfl⟩ (by decide +kernel) ⟨Nat.le_of_ble_eq_true rfl, Nat.le_of_ble_eq_true rfl⟩ rfl hl.1 rfl (Nat.le_of_ble_eq_true rfl) dX9_keepersWhoCouldGo_30 ⟨Nat.zero_le _, Nat.zero_le _⟩ (by rw [hii]; rfl) (fun H locs hG hL => ?_)
        refine k_cast (C := RX4) (T := TX4) (N := 12) (ci := 5) S hG (3000 + i) (hlv.kp hlt) (kJ_kp (by omega)) rfl (hts (.classLink RX9 167 "SwarmLine$Keeper") (by decide +kernel)) dX9_keepersWhoCouldGo_33 ?_
        refine lv_astore (lv' := [(5, .ref (ad (3000 + i))), (0, .ref (ad 100)), (1, .ref (ad (4000 + j))), (2, .int (hgV j 1 s r)), (3, .int a), (4, .int x)]) hx hb dX9_keepersWhoCouldGo_36 hl (by decide) rfl (fun ls hl => ?_)
        refine lv_aload_n hx hb dX9_keepersWhoCouldGo_38 rfl (lv_at hl 1 rfl) ?_
        refine lv_aload hx hb dX9_keepersWhoCouldGo_39 (lv_at hl 0 rfl) ?_
        refine lv_aload_n hx hb dX9_keepersWhoCouldGo_41 rfl (lv_at hl 2 rfl) ?_
        refine k_callV (n := 2) (As := [.ref (ad (3000 + i)), .ref (ad (4000 + j))]) (rest := []) (st1 := .int (kAg i j s r) :: []) (k := 100) (ci := 10) S hG hL (hlv.f (by decide) (by decide)) rfl rfl (c_X9_whatIsAgainst s r hlv  i hlt (by omega) j hj hj9 ) gX9_keepersWhoCouldGo_X9_whatIsAgainst rfl ⟨rfl, rfl⟩ (by decide +kernel) ⟨Nat.le_of_ble_eq_true rfl, Nat.le_of_ble_eq_true rfl⟩ rfl hl.1 rfl (Nat.le_of_ble_eq_true rfl) dX9_keepersWhoCouldGo_42 ⟨Nat.zero_le _, Nat.zero_le _⟩ (rfl) (fun H locs hG hL => ?_)
        refine lv_if_ne (tgt := 82) hx hb dX9_keepersWhoCouldGo_45 (by decide) (fun c45 => ?_) (fun c45 => ?_)
        ·
          refine lv_iinc (v := x + 1) (lv' := [(4, .int (x + 1)), (5, .ref (ad (3000 + i))), (0, .ref (ad 100)), (1, .ref (ad (4000 + j))), (2, .int (hgV j 1 s r)), (3, .int a)]) hx hb dX9_keepersWhoCouldGo_82 hl (k := 5) rfl (by rfl) (by decide) rfl (fun ls hl => ?_)
          refine lv_goto (tgt := 12) hx hb dX9_keepersWhoCouldGo_85 (by decide) ?_
          exact ih  (i + 1) (x + 1) a (by rw [ex]; exact nI_1 i) (hlt) (by omega) (by rw [ha]; simp only [kwF, ← ex, eq_false c21, eq_false c45, ↓reduceIte]) _ _ hG hL _ (lv_sub hl [2, 3, 4, 5, 0] rfl)
        ·
          refine lv_iload_n hx hb dX9_keepersWhoCouldGo_48 rfl (lv_at hl 3 rfl) ?_
          refine lv_iconst (v := (-1)) hx hb dX9_keepersWhoCouldGo_49 (by decide) ?_
          refine lv_icmp_eq (tgt := 75) hx hb dX9_keepersWhoCouldGo_50 (by decide) (fun c50 => ?_) (fun c50 => ?_)
          ·
            refine lv_iload_n hx hb dX9_keepersWhoCouldGo_75 rfl (lv_at hl 4 rfl) ?_
            refine lv_iconst (v := 1) hx hb dX9_keepersWhoCouldGo_76 (by decide) ?_
            refine lv_iload hx hb dX9_keepersWhoCouldGo_77 (lv_at hl 5 rfl) ?_
            refine lv_ishl hx hb dX9_keepersWhoCouldGo_79 ?_
            refine lv_ior hx hb dX9_keepersWhoCouldGo_80 ?_
            refine lv_istore_n (lv' := [(3, .int (a ||| (1 <<< (x &&& 31)))), (5, .ref (ad (3000 + i))), (0, .ref (ad 100)), (1, .ref (ad (4000 + j))), (2, .int (hgV j 1 s r)), (4, .int x)]) hx hb dX9_keepersWhoCouldGo_81 rfl hl (by decide) rfl (fun ls hl => ?_)
            refine lv_iinc (v := x + 1) (lv' := [(4, .int (x + 1)), (3, .int (a ||| (1 <<< (x &&& 31)))), (5, .ref (ad (3000 + i))), (0, .ref (ad 100)), (1, .ref (ad (4000 + j))), (2, .int (hgV j 1 s r))]) hx hb dX9_keepersWhoCouldGo_82 hl (k := 5) rfl (by rfl) (by decide) rfl (fun ls hl => ?_)
            refine lv_goto (tgt := 12) hx hb dX9_keepersWhoCouldGo_85 (by decide) ?_
            exact ih  (i + 1) (x + 1) (a ||| (1 <<< (x &&& 31))) (by rw [ex]; exact nI_1 i) (hlt) (by omega) (by rw [ha]; simp only [kwF, ← ex, eq_false c21, eq_true c45, eq_true c50, ↓reduceIte]) _ _ hG hL _ (lv_sub hl [3, 4, 5, 1, 0] rfl)
          ·
            refine lv_aload_n hx hb dX9_keepersWhoCouldGo_53 rfl (lv_at hl 1 rfl) ?_
            refine k_gi (C := RX9) (T := TX9) (N := 14) (ci := 10) (v := s 1) S hG (fun w h => List.mem_cons_of_mem _ (List.mem_append_left _ (List.mem_append_left _ (List.mem_append_left _ (List.mem_append_left _ (List.mem_append_right _ h)))))) 100 (hlv.f (by decide) (by decide)) rfl rfl 12 (by decide) rfl (hts (.fieldLink RX9 71 "SwarmLine" "now" "I") (by decide +kernel)) rfl (rfl) dX9_keepersWhoCouldGo_54 ?_
            refine lv_aload hx hb dX9_keepersWhoCouldGo_57 (lv_at hl 0 rfl) ?_
            refine lv_aload_n hx hb dX9_keepersWhoCouldGo_59 rfl (lv_at hl 2 rfl) ?_
            refine k_giN (C := RX1) (T := TX1) (N := 11) (ci := 2) (v := r 42 j) S hG (fun w h => List.mem_cons_of_mem _ (List.mem_append_left _ (List.mem_append_left _ (List.mem_append_left _ (List.mem_append_right _ h))))) (4000 + j) (hlv.ca hj) (kJ_ca hj9) rfl 0 (by decide) rfl (by decide +kernel) rfl (rfl) dX9_keepersWhoCouldGo_60 ?_
            refine lv_aload_n hx hb dX9_keepersWhoCouldGo_63 rfl (lv_at hl 2 rfl) ?_
            refine k_giN (C := RX1) (T := TX1) (N := 11) (ci := 2) (v := r 43 j) S hG (fun w h => List.mem_cons_of_mem _ (List.mem_append_left _ (List.mem_append_left _ (List.mem_append_left _ (List.mem_append_right _ h))))) (4000 + j) (hlv.ca hj) (kJ_ca hj9) rfl 1 (by decide) rfl (by decide +kernel) rfl (rfl) dX9_keepersWhoCouldGo_64 ?_
            refine k_callV (n := 2) (As := [.int (r 42 j), .int (r 43 j)]) (rest := [.int (s 1)]) (st1 := .int (kHt i (r 42 j) (r 43 j) r) :: [.int (s 1)]) (k := 3000 + i) (ci := 5) S hG hL (hlv.kp hlt) (kJ_kp (by omega)) rfl (c_X4_hoursTo s r hlv i hlt (by omega) (r 42 j) (r 43 j) (hd i hlt)) gX9_keepersWhoCouldGo_X4_hoursTo rfl ⟨rfl, rfl⟩ (by decide +kernel) ⟨Nat.le_of_ble_eq_true rfl, Nat.le_of_ble_eq_true rfl⟩ rfl hl.1 rfl (Nat.le_of_ble_eq_true rfl) dX9_keepersWhoCouldGo_67 ⟨Nat.zero_le _, Nat.zero_le _⟩ (rfl) (fun H locs hG hL => ?_)
            refine lv_iadd hx hb dX9_keepersWhoCouldGo_70 ?_
            refine lv_iload_n hx hb dX9_keepersWhoCouldGo_71 rfl (lv_at hl 3 rfl) ?_
            refine lv_icmp_ge (tgt := 82) hx hb dX9_keepersWhoCouldGo_72 (by decide) (fun c72 => ?_) (fun c72 => ?_)
            ·
              refine lv_iinc (v := x + 1) (lv' := [(4, .int (x + 1)), (5, .ref (ad (3000 + i))), (0, .ref (ad 100)), (1, .ref (ad (4000 + j))), (2, .int (hgV j 1 s r)), (3, .int a)]) hx hb dX9_keepersWhoCouldGo_82 hl (k := 5) rfl (by rfl) (by decide) rfl (fun ls hl => ?_)
              refine lv_goto (tgt := 12) hx hb dX9_keepersWhoCouldGo_85 (by decide) ?_
              exact ih  (i + 1) (x + 1) a (by rw [ex]; exact nI_1 i) (hlt) (by omega) (by rw [ha]; simp only [kwF, ← ex, eq_false c21, eq_true c45, eq_false c50, eq_true c72, ↓reduceIte]) _ _ hG hL _ (lv_sub hl [2, 3, 4, 5, 0] rfl)
            ·
              refine lv_iload_n hx hb dX9_keepersWhoCouldGo_75 rfl (lv_at hl 4 rfl) ?_
              refine lv_iconst (v := 1) hx hb dX9_keepersWhoCouldGo_76 (by decide) ?_
              refine lv_iload hx hb dX9_keepersWhoCouldGo_77 (lv_at hl 5 rfl) ?_
              refine lv_ishl hx hb dX9_keepersWhoCouldGo_79 ?_
              refine lv_ior hx hb dX9_keepersWhoCouldGo_80 ?_
              refine lv_istore_n (lv' := [(3, .int (a ||| (1 <<< (x &&& 31)))), (5, .ref (ad (3000 + i))), (0, .ref (ad 100)), (1, .ref (ad (4000 + j))), (2, .int (hgV j 1 s r)), (4, .int x)]) hx hb dX9_keepersWhoCouldGo_81 rfl hl (by decide) rfl (fun ls hl => ?_)
              refine lv_iinc (v := x + 1) (lv' := [(4, .int (x + 1)), (3, .int (a ||| (1 <<< (x &&& 31)))), (5, .ref (ad (3000 + i))), (0, .ref (ad 100)), (1, .ref (ad (4000 + j))), (2, .int (hgV j 1 s r))]) hx hb dX9_keepersWhoCouldGo_82 hl (k := 5) rfl (by rfl) (by decide) rfl (fun ls hl => ?_)
              refine lv_goto (tgt := 12) hx hb dX9_keepersWhoCouldGo_85 (by decide) ?_
              exact ih  (i + 1) (x + 1) (a ||| (1 <<< (x &&& 31))) (by rw [ex]; exact nI_1 i) (hlt) (by omega) (by rw [ha]; simp only [kwF, ← ex, eq_false c21, eq_true c45, eq_false c50, eq_false c72, ↓reduceIte]) _ _ hG hL _ (lv_sub hl [3, 4, 5, 1, 0] rfl)
  exact LP ((s 26).toNatClampNeg + 1) 0 0 0 (rfl) (Nat.zero_le _) (by omega) (rfl) _ _ hG hL _ (lv_sub hl [3, 4, 2, 1, 0] rfl)

set_option maxHeartbeats 4000000 in
set_option maxRecDepth 100000 in
theorem c_X9_workAtCase {l : Launch} {D : va_G} {cI cZ cB cO cR cJ : ClassId} {Hb : Heap} {K : kTx} {lv : Nat → Prop} {ad : Nat → Nat} {ce0 : Nat → va_E} (s : Nat → Int32) (r : Nat → Nat → Int32) (hlv : kL lv s) (k : Int32) (i : Nat) (hi : i < (s 26).toNatClampNeg) (hi9 : i < 1000) (h0 : 0 ≤ (s 14).toInt) (h1 : (s 14).toInt ≤ 60) (hc0 : 0 ≤ (r 37 i).toInt) (hc1 : (r 37 i).toInt < (s 39).toInt) (hc2 : (s 39).toInt ≤ 60) : kMet l D cI cZ cB cO cR cJ Hb K lv ad ce0 yX9_workAtCase wsX9_workAtCase 4 91 [.ref (ad 100), .int k, .ref (ad (3000 + i))] s r none s (wcR k i s r) := by
  refine Met.ofW (cc := cX9_workAtCase) (maxL := 6) (ret := none) (by decide) rfl ?_
  intro p0 e0 s0 m0 args below meth c0 s₁ B hml hv
  obtain ⟨rfl, hG, hK, hE⟩ := hv
  have hx := B.exec
  have hb := B.bytes
  have hr := B.returns
  have hts := atoms_spec (ws := wsX9_workAtCase) B.pre
  have hown : s0.vm.findClass RX9 = some m0.cls := findClass_of_methodNamed B.named
  have hlocks := B.notSynchronized
  have S : kX p0 m0 c0 cX9_workAtCase 6 s0 _ wsX9_workAtCase RX9 D (tyL cI cZ cB cO cR cJ) Hb K := ⟨⟨hx, hb, hml, hown, hts⟩, hK, hE⟩
  have hL : gL Hb [] := gL.nil
  have hH := hG.2.2.2.2
  have hl := lv_entry ([.ref (ad 100), .int k, .ref (ad (3000 + i))]) (n := 6) (Nat.le_of_ble_eq_true rfl)
  rw [lg_entry_eq]
  generalize (lg_sl ([.ref (ad 100), .int k, .ref (ad (3000 + i))]) ++ List.replicate (6 - (lg_sl ([.ref (ad 100), .int k, .ref (ad (3000 + i))])).length) Slot.unset).toArray = ls at hl ⊢
  have hl : lv_has ls 6 [(0, .ref (ad 100)), (1, .int k), (2, .ref (ad (3000 + i)))] := hl
  refine lv_aload_n hx hb dX9_workAtCase_0 rfl (lv_at hl 0 rfl) ?_
  refine lv_aload_n hx hb dX9_workAtCase_1 rfl (lv_at hl 2 rfl) ?_
  refine k_giN (C := RX4) (T := TX4) (N := 12) (ci := 5) (v := r 37 i) S hG (fun w h => List.mem_cons_of_mem _ (List.mem_append_left _ (List.mem_append_left _ (List.mem_append_left _ (List.mem_append_left _ (List.mem_append_left _ (List.mem_append_right _ h))))))) (3000 + i) (hlv.kp hi) (kJ_kp hi9) rfl 10 (by decide) rfl (by decide +kernel) rfl (rfl) dX9_workAtCase_2 ?_
  refine k_callV (n := 1) (As := [.int (r 37 i)]) (rest := []) (st1 := .ref (ad (4000 + Int32.toNatClampNeg (r 37 i))) :: []) (k := 100) (ci := 10) S hG hL (hlv.f (by decide) (by decide)) rfl rfl (c_X9_caseNumbered_ok s r hlv  (r 37 i) (hc0) (hc1) (hc2)) gX9_workAtCase_X9_caseNumbered rfl ⟨rfl, rfl⟩ (by decide +kernel) ⟨Nat.le_of_ble_eq_true rfl, Nat.le_of_ble_eq_true rfl⟩ rfl hl.1 rfl (Nat.le_of_ble_eq_true rfl) dX9_workAtCase_5 ⟨Nat.zero_le _, Nat.zero_le _⟩ (rfl) (fun H locs hG hL => ?_)
  refine lv_astore_n (lv' := [(3, .ref (ad (4000 + Int32.toNatClampNeg (r 37 i)))), (0, .ref (ad 100)), (1, .int k), (2, .ref (ad (3000 + i)))]) hx hb dX9_workAtCase_8 rfl hl (by decide) rfl (fun ls hl => ?_)
  refine lv_aload_n hx hb dX9_workAtCase_9 rfl (lv_at hl 1 rfl) ?_
  refine lv_aload_n hx hb dX9_workAtCase_10 rfl (lv_at hl 0 rfl) ?_
  refine k_giN (C := RX1) (T := TX1) (N := 11) (ci := 2) (v := r 42 (Int32.toNatClampNeg (r 37 i))) S hG (fun w h => List.mem_cons_of_mem _ (List.mem_append_left _ (List.mem_append_left _ (List.mem_append_left _ (List.mem_append_left _ (List.mem_append_right _ h)))))) (4000 + Int32.toNatClampNeg (r 37 i)) (hlv.ca (ix_lt hc0 hc1)) (kJ_ca (ix_le hc0 (by omega))) rfl 0 (by decide) rfl (by decide +kernel) rfl (rfl) dX9_workAtCase_11 ?_
  refine lv_aload_n hx hb dX9_workAtCase_14 rfl (lv_at hl 0 rfl) ?_
  refine k_giN (C := RX1) (T := TX1) (N := 11) (ci := 2) (v := r 43 (Int32.toNatClampNeg (r 37 i))) S hG (fun w h => List.mem_cons_of_mem _ (List.mem_append_left _ (List.mem_append_left _ (List.mem_append_left _ (List.mem_append_left _ (List.mem_append_right _ h)))))) (4000 + Int32.toNatClampNeg (r 37 i)) (hlv.ca (ix_lt hc0 hc1)) (kJ_ca (ix_le hc0 (by omega))) rfl 1 (by decide) rfl (by decide +kernel) rfl (rfl) dX9_workAtCase_15 ?_
  refine k_callV (n := 2) (As := [.int (r 42 (Int32.toNatClampNeg (r 37 i))), .int (r 43 (Int32.toNatClampNeg (r 37 i)))]) (rest := []) (st1 := .int (wcF i s r) :: []) (k := 100) (ci := 10) S hG hL (hlv.f (by decide) (by decide)) rfl rfl (c_X9_nearestSwarm s r hlv  (r 42 (Int32.toNatClampNeg (r 37 i))) (r 43 (Int32.toNatClampNeg (r 37 i))) (h0) (h1)) gX9_workAtCase_X9_nearestSwarm rfl ⟨rfl, rfl⟩ (by decide +kernel) ⟨Nat.le_of_ble_eq_true rfl, Nat.le_of_ble_eq_true rfl⟩ rfl hl.1 rfl (Nat.le_of_ble_eq_true rfl) dX9_workAtCase_18 ⟨Nat.zero_le _, Nat.zero_le _⟩ (rfl) (fun H locs hG hL => ?_)
  refine lv_istore (lv' := [(4, .int (wcF i s r)), (3, .ref (ad (4000 + Int32.toNatClampNeg (r 37 i)))), (0, .ref (ad 100)), (1, .int k), (2, .ref (ad (3000 + i)))]) hx hb dX9_workAtCase_21 hl (by decide) rfl (fun ls hl => ?_)
  refine lv_iload hx hb dX9_workAtCase_23 (lv_at hl 0 rfl) ?_
  refine lv_iconst (v := (-1)) hx hb dX9_workAtCase_25 (by decide) ?_
  refine lv_icmp_ne (tgt := 35) hx hb dX9_workAtCase_26 (by decide) (fun c26 => ?_) (fun c26 => ?_)
  ·
    refine lv_aload_n hx hb dX9_workAtCase_35 rfl (lv_at hl 2 rfl) ?_
    refine lv_iload hx hb dX9_workAtCase_36 (lv_at hl 0 rfl) ?_
    refine k_callV (n := 1) (As := [.int (wcF i s r)]) (rest := []) (st1 := .ref (ad (2000 + Int32.toNatClampNeg (wcF i s r))) :: []) (k := 100) (ci := 10) S hG hL (hlv.f (by decide) (by decide)) rfl rfl (c_X9_swarmNumbered_ok s r hlv  (wcF i s r) ((wcF_in h0 h1 c26).1) ((wcF_in h0 h1 c26).2) (h1)) gX9_workAtCase_X9_swarmNumbered rfl ⟨rfl, rfl⟩ (by decide +kernel) ⟨Nat.le_of_ble_eq_true rfl, Nat.le_of_ble_eq_true rfl⟩ rfl hl.1 rfl (Nat.le_of_ble_eq_true rfl) dX9_workAtCase_38 ⟨Nat.zero_le _, Nat.zero_le _⟩ (rfl) (fun H locs hG hL => ?_)
    refine lv_astore (lv' := [(5, .ref (ad (2000 + Int32.toNatClampNeg (wcF i s r)))), (4, .int (wcF i s r)), (3, .ref (ad (4000 + Int32.toNatClampNeg (r 37 i)))), (0, .ref (ad 100)), (1, .int k), (2, .ref (ad (3000 + i)))]) hx hb dX9_workAtCase_41 hl (by decide) rfl (fun ls hl => ?_)
    refine lv_aload hx hb dX9_workAtCase_43 (lv_at hl 0 rfl) ?_
    refine k_giN (C := RX6) (T := TX6) (N := 11) (ci := 7) (v := r 20 (Int32.toNatClampNeg (wcF i s r))) S hG (fun w h => List.mem_cons_of_mem _ (List.mem_append_left _ (List.mem_append_left _ (List.mem_append_left _ (List.mem_append_right _ h))))) (2000 + Int32.toNatClampNeg (wcF i s r)) (hlv.sw (ix_lt (wcF_in h0 h1 c26).1 (wcF_in h0 h1 c26).2)) (kJ_sw (ix_le (wcF_in h0 h1 c26).1 (by have q := (wcF_in h0 h1 c26).2; omega))) rfl 4 (by decide) rfl (by decide +kernel) rfl (rfl) dX9_workAtCase_45 ?_
    refine lv_aload_n hx hb dX9_workAtCase_48 rfl (lv_at hl 5 rfl) ?_
    refine k_giN (C := RX4) (T := TX4) (N := 12) (ci := 5) (v := r 30 i) S hG (fun w h => List.mem_cons_of_mem _ (List.mem_append_left _ (List.mem_append_left _ (List.mem_append_left _ (List.mem_append_left _ (List.mem_append_left _ (List.mem_append_right _ h))))))) (3000 + i) (hlv.kp hi) (kJ_kp hi9) rfl 2 (by decide) rfl (by decide +kernel) rfl (rfl) dX9_workAtCase_49 ?_
    refine lv_icmp_le (tgt := 77) hx hb dX9_workAtCase_52 (by decide) (fun c52 => ?_) (fun c52 => ?_)
    ·
      refine lv_aload hx hb dX9_workAtCase_77 (lv_at hl 0 rfl) ?_
      refine lv_iload_n hx hb dX9_workAtCase_79 rfl (lv_at hl 4 rfl) ?_
      refine lv_aload_n hx hb dX9_workAtCase_80 rfl (lv_at hl 5 rfl) ?_
      refine k_giN (C := RX4) (T := TX4) (N := 12) (ci := 5) (v := r 37 i) S hG (fun w h => List.mem_cons_of_mem _ (List.mem_append_left _ (List.mem_append_left _ (List.mem_append_left _ (List.mem_append_left _ (List.mem_append_left _ (List.mem_append_right _ h))))))) (3000 + i) (hlv.kp hi) (kJ_kp hi9) rfl 10 (by decide) rfl (by decide +kernel) rfl (rfl) dX9_workAtCase_81 ?_
      refine lv_aload_n hx hb dX9_workAtCase_84 rfl (lv_at hl 3 rfl) ?_
      refine k_gi (C := RX9) (T := TX9) (N := 14) (ci := 10) (v := s 1) S hG (fun w h => List.mem_cons_of_mem _ (List.mem_append_left _ (List.mem_append_left _ (List.mem_append_right _ h)))) 100 (hlv.f (by decide) (by decide)) rfl rfl 12 (by decide) rfl (hts (.fieldLink RX9 71 "SwarmLine" "now" "I") (by decide +kernel)) rfl (rfl) dX9_workAtCase_85 ?_
      refine k_callV (n := 3) (As := [.int k, .int (r 37 i), .int (s 1)]) (rest := []) (st1 := []) (k := 2000 + Int32.toNatClampNeg (wcF i s r)) (ci := 7) S hG hL (hlv.sw (ix_lt (wcF_in h0 h1 c26).1 (wcF_in h0 h1 c26).2)) (kJ_sw (ix_le (wcF_in h0 h1 c26).1 (by have q := (wcF_in h0 h1 c26).2; omega))) rfl (c_X6_isHadBy s r hlv (Int32.toNatClampNeg (wcF i s r)) (ix_lt (wcF_in h0 h1 c26).1 (wcF_in h0 h1 c26).2) (ix_le (wcF_in h0 h1 c26).1 (by have q := (wcF_in h0 h1 c26).2; omega)) k (r 37 i) (s 1) ) gX9_workAtCase_X6_isHadBy rfl ⟨rfl, rfl⟩ (by decide +kernel) ⟨Nat.le_of_ble_eq_true rfl, Nat.le_of_ble_eq_true rfl⟩ rfl hl.1 rfl (Nat.le_of_ble_eq_true rfl) dX9_workAtCase_88 ⟨Nat.zero_le _, Nat.zero_le _⟩ (rfl) (fun H locs hG hL => ?_)
      refine lv_aload_n hx hb dX9_workAtCase_91 rfl (lv_at hl 5 rfl) ?_
      refine lv_dup hx hb dX9_workAtCase_92 rfl ?_
      refine k_giN (C := RX4) (T := TX4) (N := 12) (ci := 5) (v := (up2 (up2 (up2 (up2 r 15 (Int32.toNatClampNeg (wcF i s r)) 1) 23 (Int32.toNatClampNeg (wcF i s r)) k) 25 (Int32.toNatClampNeg (wcF i s r)) (r 37 i)) 24 (Int32.toNatClampNeg (wcF i s r)) (s 1)) 29 i) S hG (fun w h => List.mem_cons_of_mem _ (List.mem_append_left _ (List.mem_append_left _ (List.mem_append_left _ (List.mem_append_left _ (List.mem_append_left _ (List.mem_append_right _ h))))))) (3000 + i) (hlv.kp hi) (kJ_kp hi9) rfl 6 (by decide) rfl (by decide +kernel) rfl (rfl) dX9_workAtCase_93 ?_
      refine lv_iconst (v := 1) hx hb dX9_workAtCase_96 (by decide) ?_
      refine lv_isub hx hb dX9_workAtCase_97 ?_
      refine k_piN (C := RX4) (T := TX4) (N := 12) (ci := 5) (ty := .int) S hG hL (fun w h => List.mem_cons_of_mem _ (List.mem_append_left _ (List.mem_append_left _ (List.mem_append_left _ (List.mem_append_left _ (List.mem_append_left _ (List.mem_append_right _ h))))))) tyX4 tyX4_ok nmX4 (3000 + i) (hlv.kp hi) (kJ_kp hi9) rfl 6 (by decide) rfl (by decide +kernel) rfl (by decide +kernel) rfl rfl (Nat.le_of_ble_eq_true rfl) (kw_kp_boxes hi9 _) dX9_workAtCase_98 (fun H locs hG hL => ?_)
      refine lv_aload_n hx hb dX9_workAtCase_101 rfl (lv_at hl 5 rfl) ?_
      refine lv_dup hx hb dX9_workAtCase_102 rfl ?_
      refine k_giN (C := RX4) (T := TX4) (N := 12) (ci := 5) (v := (up2 (up2 (up2 (up2 r 15 (Int32.toNatClampNeg (wcF i s r)) 1) 23 (Int32.toNatClampNeg (wcF i s r)) k) 25 (Int32.toNatClampNeg (wcF i s r)) (r 37 i)) 24 (Int32.toNatClampNeg (wcF i s r)) (s 1)) 38 i) S hG (fun w h => List.mem_cons_of_mem _ (List.mem_append_left _ (List.mem_append_left _ (List.mem_append_left _ (List.mem_append_left _ (List.mem_append_left _ (List.mem_append_right _ h))))))) (3000 + i) (hlv.kp hi) (kJ_kp hi9) rfl 11 (by decide) rfl (by decide +kernel) rfl ((up2_n _ _ _ _ (by decide)).trans (rfl)) dX9_workAtCase_103 ?_
      refine lv_iconst (v := 1) hx hb dX9_workAtCase_106 (by decide) ?_
      refine lv_iadd hx hb dX9_workAtCase_107 ?_
      refine k_piN (C := RX4) (T := TX4) (N := 12) (ci := 5) (ty := .int) S hG hL (fun w h => List.mem_cons_of_mem _ (List.mem_append_left _ (List.mem_append_left _ (List.mem_append_left _ (List.mem_append_left _ (List.mem_append_left _ (List.mem_append_right _ h))))))) tyX4 tyX4_ok nmX4 (3000 + i) (hlv.kp hi) (kJ_kp hi9) rfl 11 (by decide) rfl (by decide +kernel) rfl (by decide +kernel) rfl rfl (Nat.le_of_ble_eq_true rfl) (kw_kp_swarmsHad hi9 _) dX9_workAtCase_108 (fun H locs hG hL => ?_)
      refine lv_aload_n hx hb dX9_workAtCase_111 rfl (lv_at hl 2 rfl) ?_
      refine lv_iconst (v := 2) hx hb dX9_workAtCase_112 (by decide) ?_
      refine k_piN (C := RX1) (T := TX1) (N := 11) (ci := 2) (ty := .int) S hG hL (fun w h => List.mem_cons_of_mem _ (List.mem_append_left _ (List.mem_append_left _ (List.mem_append_left _ (List.mem_append_left _ (List.mem_append_right _ h)))))) tyX1 tyX1_ok nmX1 (4000 + Int32.toNatClampNeg (r 37 i)) (hlv.ca (ix_lt hc0 hc1)) (kJ_ca (ix_le hc0 (by omega))) rfl 3 (by decide) rfl (by decide +kernel) rfl (by decide +kernel) rfl rfl (Nat.le_of_ble_eq_true rfl) (kw_ca_state (ix_le hc0 (by omega)) _) dX9_workAtCase_113 (fun H locs hG hL => ?_)
      refine lv_aload_n hx hb dX9_workAtCase_116 rfl (lv_at hl 2 rfl) ?_
      refine lv_iload hx hb dX9_workAtCase_117 (lv_at hl 1 rfl) ?_
      refine k_piN (C := RX1) (T := TX1) (N := 11) (ci := 2) (ty := .int) S hG hL (fun w h => List.mem_cons_of_mem _ (List.mem_append_left _ (List.mem_append_left _ (List.mem_append_left _ (List.mem_append_left _ (List.mem_append_right _ h)))))) tyX1 tyX1_ok nmX1 (4000 + Int32.toNatClampNeg (r 37 i)) (hlv.ca (ix_lt hc0 hc1)) (kJ_ca (ix_le hc0 (by omega))) rfl 10 (by decide) rfl (by decide +kernel) rfl (by decide +kernel) rfl rfl (Nat.le_of_ble_eq_true rfl) (kw_ca_swarm (ix_le hc0 (by omega)) _) dX9_workAtCase_119 (fun H locs hG hL => ?_)
      exact g_vret S.1 hr hlocks hG hL rfl (congr (congrArg (kJ ce0 ad K.2.2.1 cI cB cO cR) (by rfl)) (by simp only [wcR, eq_false c26, eq_true c52, if_true, if_false] <;> rfl)) dX9_workAtCase_122
    ·
      refine lv_aload_n hx hb dX9_workAtCase_55 rfl (lv_at hl 2 rfl) ?_
      refine lv_iconst (v := 0) hx hb dX9_workAtCase_56 (by decide) ?_
      refine k_piN (C := RX1) (T := TX1) (N := 11) (ci := 2) (ty := .int) S hG hL (fun w h => List.mem_cons_of_mem _ (List.mem_append_left _ (List.mem_append_left _ (List.mem_append_left _ (List.mem_append_left _ (List.mem_append_right _ h)))))) tyX1 tyX1_ok nmX1 (4000 + Int32.toNatClampNeg (r 37 i)) (hlv.ca (ix_lt hc0 hc1)) (kJ_ca (ix_le hc0 (by omega))) rfl 3 (by decide) rfl (by decide +kernel) rfl (by decide +kernel) rfl rfl (Nat.le_of_ble_eq_true rfl) (kw_ca_state (ix_le hc0 (by omega)) _) dX9_workAtCase_57 (fun H locs hG hL => ?_)
      refine lv_aload_n hx hb dX9_workAtCase_60 rfl (lv_at hl 2 rfl) ?_
      refine lv_aload_n hx hb dX9_workAtCase_61 rfl (lv_at hl 2 rfl) ?_
      refine k_giN (C := RX1) (T := TX1) (N := 11) (ci := 2) (v := r 45 (Int32.toNatClampNeg (r 37 i))) S hG (fun w h => List.mem_cons_of_mem _ (List.mem_append_left _ (List.mem_append_left _ (List.mem_append_left _ (List.mem_append_left _ (List.mem_append_right _ h)))))) (4000 + Int32.toNatClampNeg (r 37 i)) (hlv.ca (ix_lt hc0 hc1)) (kJ_ca (ix_le hc0 (by omega))) rfl 4 (by decide) rfl (by decide +kernel) rfl ((up2_n _ _ _ _ (by decide)).trans (rfl)) dX9_workAtCase_62 ?_
      refine lv_aload hx hb dX9_workAtCase_65 (lv_at hl 0 rfl) ?_
      refine k_giN (C := RX6) (T := TX6) (N := 11) (ci := 7) (v := r 20 (Int32.toNatClampNeg (wcF i s r))) S hG (fun w h => List.mem_cons_of_mem _ (List.mem_append_left _ (List.mem_append_left _ (List.mem_append_left _ (List.mem_append_right _ h))))) (2000 + Int32.toNatClampNeg (wcF i s r)) (hlv.sw (ix_lt (wcF_in h0 h1 c26).1 (wcF_in h0 h1 c26).2)) (kJ_sw (ix_le (wcF_in h0 h1 c26).1 (by have q := (wcF_in h0 h1 c26).2; omega))) rfl 4 (by decide) rfl (by decide +kernel) rfl ((up2_n _ _ _ _ (by decide)).trans (rfl)) dX9_workAtCase_67 ?_
      refine va_mmax hx hb (hml.trans hl.1.symm) hown (hts (.methodLink RX9 371 Lib.Math.max.name) (by decide +kernel)) (hts (.static Lib.Math.max.name) (by decide +kernel)) (hts (.initialized "java/lang/Math") (by decide +kernel)) (hts (.code Lib.Math.max.name Lib.Math.max.code 2 (some .int)) (by decide +kernel)) (Nat.le_of_ble_eq_true rfl) (Nat.le_of_ble_eq_true rfl) (Nat.zero_le _) (Nat.zero_le _) dX9_workAtCase_70 ?_
      refine k_piN (C := RX1) (T := TX1) (N := 11) (ci := 2) (ty := .int) S hG hL (fun w h => List.mem_cons_of_mem _ (List.mem_append_left _ (List.mem_append_left _ (List.mem_append_left _ (List.mem_append_left _ (List.mem_append_right _ h)))))) tyX1 tyX1_ok nmX1 (4000 + Int32.toNatClampNeg (r 37 i)) (hlv.ca (ix_lt hc0 hc1)) (kJ_ca (ix_le hc0 (by omega))) rfl 4 (by decide) rfl (by decide +kernel) rfl (by decide +kernel) rfl rfl (Nat.le_of_ble_eq_true rfl) (kw_ca_high (ix_le hc0 (by omega)) _) dX9_workAtCase_73 (fun H locs hG hL => ?_)
      exact g_vret S.1 hr hlocks hG hL rfl (congr (congrArg (kJ ce0 ad K.2.2.1 cI cB cO cR) (by rfl)) (by simp only [wcR, eq_false c26, eq_false c52, if_true, if_false] <;> rfl)) dX9_workAtCase_76
  ·
    refine lv_aload_n hx hb dX9_workAtCase_29 rfl (lv_at hl 1 rfl) ?_
    refine lv_iconst (v := 3) hx hb dX9_workAtCase_30 (by decide) ?_
    refine k_piN (C := RX1) (T := TX1) (N := 11) (ci := 2) (ty := .int) S hG hL (fun w h => List.mem_cons_of_mem _ (List.mem_append_left _ (List.mem_append_left _ (List.mem_append_left _ (List.mem_append_left _ (List.mem_append_right _ h)))))) tyX1 tyX1_ok nmX1 (4000 + Int32.toNatClampNeg (r 37 i)) (hlv.ca (ix_lt hc0 hc1)) (kJ_ca (ix_le hc0 (by omega))) rfl 3 (by decide) rfl (by decide +kernel) rfl (by decide +kernel) rfl rfl (Nat.le_of_ble_eq_true rfl) (kw_ca_state (ix_le hc0 (by omega)) _) dX9_workAtCase_31 (fun H locs hG hL => ?_)
    exact g_vret S.1 hr hlocks hG hL rfl (congr (congrArg (kJ ce0 ad K.2.2.1 cI cB cO cR) (by rfl)) (by simp only [wcR, eq_true c26, if_true, if_false] <;> rfl)) dX9_workAtCase_34

set_option maxHeartbeats 4000000 in
set_option maxRecDepth 100000 in
theorem c_X9_moveKeeper {l : Launch} {D : va_G} {cI cZ cB cO cR cJ : ClassId} {Hb : Heap} {K : kTx} {lv : Nat → Prop} {ad : Nat → Nat} {ce0 : Nat → va_E} (s : Nat → Int32) (r : Nat → Nat → Int32) (hlv : kL lv s) (x : Int32) (i : Nat) (hi : i < (s 26).toNatClampNeg) (hi9 : i < 1000) (ex : x = nI i) (hk0 : 0 ≤ (s 26).toInt) (hk1 : (s 26).toInt ≤ 12) (h0 : 0 ≤ (s 14).toInt) (h1 : (s 14).toInt ≤ 60) (hc : ¬ r 34 i = 0 → ¬ r 34 i = 2 → 0 ≤ (r 37 i).toInt ∧ (r 37 i).toInt < (s 39).toInt) (hc2 : (s 39).toInt ≤ 60) : kMet l D cI cZ cB cO cR cJ Hb K lv ad ce0 yX9_moveKeeper wsX9_moveKeeper 5 116 [.ref (ad 100), .int x, .ref (ad (3000 + i))] s r none s (mvR i s r) := by
  refine Met.ofW (cc := cX9_moveKeeper) (maxL := 3) (ret := none) (by decide) rfl ?_
  intro p0 e0 s0 m0 args below meth c0 s₁ B hml hv
  obtain ⟨rfl, hG, hK, hE⟩ := hv
  have hx := B.exec
  have hb := B.bytes
  have hr := B.returns
  have hts := atoms_spec (ws := wsX9_moveKeeper) B.pre
  have hown : s0.vm.findClass RX9 = some m0.cls := findClass_of_methodNamed B.named
  have hlocks := B.notSynchronized
  have S : kX p0 m0 c0 cX9_moveKeeper 3 s0 _ wsX9_moveKeeper RX9 D (tyL cI cZ cB cO cR cJ) Hb K := ⟨⟨hx, hb, hml, hown, hts⟩, hK, hE⟩
  have hL : gL Hb [] := gL.nil
  have hH := hG.2.2.2.2
  have hl := lv_entry ([.ref (ad 100), .int x, .ref (ad (3000 + i))]) (n := 3) (Nat.le_of_ble_eq_true rfl)
  rw [lg_entry_eq]
  generalize (lg_sl ([.ref (ad 100), .int x, .ref (ad (3000 + i))]) ++ List.replicate (3 - (lg_sl ([.ref (ad 100), .int x, .ref (ad (3000 + i))])).length) Slot.unset).toArray = ls at hl ⊢
  have hl : lv_has ls 3 [(0, .ref (ad 100)), (1, .int x), (2, .ref (ad (3000 + i)))] := hl
  refine lv_aload_n hx hb dX9_moveKeeper_0 rfl (lv_at hl 2 rfl) ?_
  refine k_giN (C := RX4) (T := TX4) (N := 12) (ci := 5) (v := r 34 i) S hG (fun w h => List.mem_cons_of_mem _ (List.mem_append_left _ (List.mem_append_left _ (List.mem_append_left _ (List.mem_append_left _ (List.mem_append_left _ (List.mem_append_right _ h))))))) (3000 + i) (hlv.kp hi) (kJ_kp hi9) rfl 7 (by decide) rfl (by decide +kernel) rfl (rfl) dX9_moveKeeper_1 ?_
  refine lv_if_ne (tgt := 8) hx hb dX9_moveKeeper_4 (by decide) (fun c4 => ?_) (fun c4 => ?_)
  ·
    refine lv_aload_n hx hb dX9_moveKeeper_8 rfl (lv_at hl 2 rfl) ?_
    refine lv_dup hx hb dX9_moveKeeper_9 rfl ?_
    refine k_giN (C := RX4) (T := TX4) (N := 12) (ci := 5) (v := r 35 i) S hG (fun w h => List.mem_cons_of_mem _ (List.mem_append_left _ (List.mem_append_left _ (List.mem_append_left _ (List.mem_append_left _ (List.mem_append_left _ (List.mem_append_right _ h))))))) (3000 + i) (hlv.kp hi) (kJ_kp hi9) rfl 9 (by decide) rfl (by decide +kernel) rfl (rfl) dX9_moveKeeper_10 ?_
    refine lv_iconst (v := 1) hx hb dX9_moveKeeper_13 (by decide) ?_
    refine lv_isub hx hb dX9_moveKeeper_14 ?_
    refine k_piN (C := RX4) (T := TX4) (N := 12) (ci := 5) (ty := .int) S hG hL (fun w h => List.mem_cons_of_mem _ (List.mem_append_left _ (List.mem_append_left _ (List.mem_append_left _ (List.mem_append_left _ (List.mem_append_left _ (List.mem_append_right _ h))))))) tyX4 tyX4_ok nmX4 (3000 + i) (hlv.kp hi) (kJ_kp hi9) rfl 9 (by decide) rfl (by decide +kernel) rfl (by decide +kernel) rfl rfl (Nat.le_of_ble_eq_true rfl) (kw_kp_hoursToGo hi9 _) dX9_moveKeeper_15 (fun H locs hG hL => ?_)
    refine lv_aload_n hx hb dX9_moveKeeper_18 rfl (lv_at hl 2 rfl) ?_
    refine k_giN (C := RX4) (T := TX4) (N := 12) (ci := 5) (v := (r 35 i) - 1) S hG (fun w h => List.mem_cons_of_mem _ (List.mem_append_left _ (List.mem_append_left _ (List.mem_append_left _ (List.mem_append_left _ (List.mem_append_left _ (List.mem_append_right _ h))))))) (3000 + i) (hlv.kp hi) (kJ_kp hi9) rfl 9 (by decide) rfl (by decide +kernel) rfl (up2_ss ..) dX9_moveKeeper_19 ?_
    refine lv_if_le (tgt := 26) hx hb dX9_moveKeeper_22 (by decide) (fun c22 => ?_) (fun c22 => ?_)
    ·
      refine lv_aload_n hx hb dX9_moveKeeper_26 rfl (lv_at hl 2 rfl) ?_
      refine k_giN (C := RX4) (T := TX4) (N := 12) (ci := 5) (v := r 34 i) S hG (fun w h => List.mem_cons_of_mem _ (List.mem_append_left _ (List.mem_append_left _ (List.mem_append_left _ (List.mem_append_left _ (List.mem_append_left _ (List.mem_append_right _ h))))))) (3000 + i) (hlv.kp hi) (kJ_kp hi9) rfl 7 (by decide) rfl (by decide +kernel) rfl ((up2_n _ _ _ _ (by decide)).trans (rfl)) dX9_moveKeeper_27 ?_
      refine lv_iconst (v := 2) hx hb dX9_moveKeeper_30 (by decide) ?_
      refine lv_icmp_ne (tgt := 41) hx hb dX9_moveKeeper_31 (by decide) (fun c31 => ?_) (fun c31 => ?_)
      ·
        refine lv_aload_n hx hb dX9_moveKeeper_41 rfl (lv_at hl 0 rfl) ?_
        refine lv_iload_n hx hb dX9_moveKeeper_42 rfl (lv_at hl 1 rfl) ?_
        refine lv_aload_n hx hb dX9_moveKeeper_43 rfl (lv_at hl 2 rfl) ?_
        refine k_callV (n := 2) (As := [.int x, .ref (ad (3000 + i))]) (rest := []) (st1 := []) (k := 100) (ci := 10) S hG hL (hlv.f (by decide) (by decide)) rfl rfl (c_X9_workAtCase s (up2 r 35 i ((r 35 i) - 1)) hlv  x i hi hi9 (h0) (h1) ((hc c4 c31).1) ((hc c4 c31).2) (hc2)) gX9_moveKeeper_X9_workAtCase rfl ⟨rfl, rfl⟩ (by decide +kernel) ⟨Nat.le_of_ble_eq_true rfl, Nat.le_of_ble_eq_true rfl⟩ rfl hl.1 rfl (Nat.le_of_ble_eq_true rfl) dX9_moveKeeper_44 ⟨Nat.zero_le _, Nat.zero_le _⟩ (rfl) (fun H locs hG hL => ?_)
        refine lv_aload_n hx hb dX9_moveKeeper_47 rfl (lv_at hl 2 rfl) ?_
        refine k_callV (n := 0) (As := []) (rest := []) (st1 := []) (k := 3000 + i) (ci := 5) S hG hL (hlv.kp hi) (kJ_kp hi9) rfl (c_X4_turnBack s (wcR x i s (up2 r 35 i ((r 35 i) - 1))) hlv i hi hi9  ) gX9_moveKeeper_X4_turnBack rfl ⟨rfl, rfl⟩ (by decide +kernel) ⟨Nat.le_of_ble_eq_true rfl, Nat.le_of_ble_eq_true rfl⟩ rfl hl.1 rfl (Nat.le_of_ble_eq_true rfl) dX9_moveKeeper_48 ⟨Nat.zero_le _, Nat.zero_le _⟩ (rfl) (fun H locs hG hL => ?_)
        exact g_vret S.1 hr hlocks hG hL rfl (congr (congrArg (kJ ce0 ad K.2.2.1 cI cB cO cR) (by rfl)) (by simp only [mvR, ← ex, eq_false c4, eq_true c22, eq_false c31, if_true, if_false])) dX9_moveKeeper_51
      ·
        refine lv_aload_n hx hb dX9_moveKeeper_34 rfl (lv_at hl 2 rfl) ?_
        refine k_callV (n := 0) (As := []) (rest := []) (st1 := []) (k := 3000 + i) (ci := 5) S hG hL (hlv.kp hi) (kJ_kp hi9) rfl (c_X4_comeHome s (up2 r 35 i ((r 35 i) - 1)) hlv i hi hi9  ) gX9_moveKeeper_X4_comeHome rfl ⟨rfl, rfl⟩ (by decide +kernel) ⟨Nat.le_of_ble_eq_true rfl, Nat.le_of_ble_eq_true rfl⟩ rfl hl.1 rfl (Nat.le_of_ble_eq_true rfl) dX9_moveKeeper_35 ⟨Nat.zero_le _, Nat.zero_le _⟩ (rfl) (fun H locs hG hL => ?_)
        refine lv_goto (tgt := 51) hx hb dX9_moveKeeper_38 (by decide) ?_
        exact g_vret S.1 hr hlocks hG hL rfl (congr (congrArg (kJ ce0 ad K.2.2.1 cI cB cO cR) (by rfl)) (by simp only [mvR, ← ex, eq_false c4, eq_true c22, eq_true c31, if_true, if_false])) dX9_moveKeeper_51
    ·
      exact g_vret S.1 hr hlocks hG hL rfl (congr (congrArg (kJ ce0 ad K.2.2.1 cI cB cO cR) (by rfl)) (by simp only [mvR, ← ex, eq_false c4, eq_false c22, if_true, if_false])) dX9_moveKeeper_25
  ·
    exact g_vret S.1 hr hlocks hG hL rfl (congr (congrArg (kJ ce0 ad K.2.2.1 cI cB cO cR) (by rfl)) (by simp only [mvR, ← ex, eq_true c4, if_true, if_false])) dX9_moveKeeper_7
