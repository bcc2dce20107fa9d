/-! an hour -/
theorem lpR_n {i : Nat} {lo nw : Int32} {r : Nat → Nat → Int32} {f : Nat} (h1 : ¬ f = 15) (h2 : ¬ f = 22) (h3 : ¬ f = 24) : lpR i lo nw r f = r f := by
  unfold lpR
  split
  · split
    · rw [up2_nn _ _ _ h3, up2_nn _ _ _ h1, up2_nn _ _ _ h2]
    · rw [up2_nn _ _ _ h2]
  · rfl
def paR (lo nw : Int32) (r : Nat → Nat → Int32) : Nat → Nat → Nat → Int32
  | 0 => r
  | n + 1 => lpR n lo nw (paR lo nw r n)
theorem paR_n {lo nw : Int32} {r : Nat → Nat → Int32} {f : Nat} (h1 : ¬ f = 15) (h2 : ¬ f = 22) (h3 : ¬ f = 24) : ∀ n, paR lo nw r n f = r f
  | 0 => rfl
  | n + 1 => (lpR_n h1 h2 h3).trans (paR_n h1 h2 h3 n)
theorem wcR_n {k : Int32} {i : Nat} {s : Nat → Int32} {r : Nat → Nat → Int32} {f : Nat} (h : f = 34 ∨ f = 37 ∨ f = 35 ∨ f = 36 ∨ f = 2 ∨ f = 3 ∨ f = 27 ∨ f = 28 ∨ f = 31) : wcR k i s r f = r f := by
  unfold wcR
  split
  · rw [up2_nn _ _ _ (by omega)]
  · split
    · rw [up2_nn _ _ _ (by omega), up2_nn _ _ _ (by omega), up2_nn _ _ _ (by omega), up2_nn _ _ _ (by omega), up2_nn _ _ _ (by omega), up2_nn _ _ _ (by omega), up2_nn _ _ _ (by omega), up2_nn _ _ _ (by omega)]
    · rw [up2_nn _ _ _ (by omega), up2_nn _ _ _ (by omega)]
theorem mvR_n {i : Nat} {s : Nat → Int32} {r : Nat → Nat → Int32} {f : Nat} (h : f = 36 ∨ f = 2 ∨ f = 3 ∨ f = 27 ∨ f = 28 ∨ f = 31) : mvR i s r f = r f := by
  unfold mvR
  split
  · rfl
  · split
    · split
      · rw [up2_nn _ _ _ (by omega), up2_nn _ _ _ (by omega), up2_nn _ _ _ (by omega)]
      · rw [up2_nn _ _ _ (by omega), up2_nn _ _ _ (by omega), wcR_n (by omega), up2_nn _ _ _ (by omega)]
    · rw [up2_nn _ _ _ (by omega)]
theorem mvR_o {i j : Nat} {s : Nat → Int32} {r : Nat → Nat → Int32} (h : ¬ j = i) : mvR i s r 34 j = r 34 j ∧ mvR i s r 37 j = r 37 j := by
  unfold mvR
  split
  · exact ⟨rfl, rfl⟩
  · split
    · split
      · refine ⟨?_, ?_⟩
        · rw [up2_nn _ _ _ (by decide), up2_sn _ _ _ h, up2_nn _ _ _ (by decide)]
        · rw [up2_sn _ _ _ h, up2_nn _ _ _ (by decide), up2_nn _ _ _ (by decide)]
      · refine ⟨?_, ?_⟩
        · rw [up2_nn _ _ _ (by decide), up2_sn _ _ _ h, wcR_n (by omega), up2_nn _ _ _ (by decide)]
        · rw [up2_nn _ _ _ (by decide), up2_nn _ _ _ (by decide), wcR_n (by omega), up2_nn _ _ _ (by decide)]
    · exact ⟨by rw [up2_nn _ _ _ (by decide)], by rw [up2_nn _ _ _ (by decide)]⟩
/-- a keeper who is out to a case is out to a case that is -/
def kq (s : Nat → Int32) (r : Nat → Nat → Int32) (j : Nat) : Prop := ¬ r 34 j = 0 → ¬ r 34 j = 2 → 0 ≤ (r 37 j).toInt ∧ (r 37 j).toInt < (s 39).toInt
theorem mvR_i {i : Nat} {s s' : Nat → Int32} {r : Nat → Nat → Int32} (h : kq s' r i) : kq s' (mvR i s r) i := by
  unfold kq mvR
  split
  · exact h
  · split
    · split
      · intro a
        rw [up2_nn _ _ _ (by decide), up2_ss] at a
        exact absurd rfl a
      · intro _ a
        rw [up2_nn _ _ _ (by decide), up2_ss] at a
        exact absurd rfl a
    · rw [up2_nn _ _ _ (by decide), up2_nn _ _ _ (by decide)]
      exact h
theorem mvR_q {i : Nat} {s s' : Nat → Int32} {r : Nat → Nat → Int32} (h : ∀ j, kq s' r j) : ∀ j, kq s' (mvR i s r) j := fun j => by
  by_cases e : j = i
  · subst e; exact mvR_i (h j)
  · have q := mvR_o (s := s) (r := r) e
    unfold kq
    rw [q.1, q.2]
    exact h j
def pbR (s : Nat → Int32) (r : Nat → Nat → Int32) : Nat → Nat → Nat → Int32
  | 0 => r
  | n + 1 => mvR n s (pbR s r n)
theorem kq_eq {s s' : Nat → Int32} {r r' : Nat → Nat → Int32} {j : Nat} (h : kq s r j) (hs : s' 39 = s 39) (h1 : r' 34 = r 34) (h2 : r' 37 = r 37) : kq s' r' j := by
  unfold kq
  rw [hs, h1, h2]
  exact h
theorem pbR_q {s s' : Nat → Int32} {r : Nat → Nat → Int32} (h : ∀ j, kq s' r j) : ∀ n j, kq s' (pbR s r n) j
  | 0 => h
  | n + 1 => mvR_q (pbR_q h n)
theorem pbR_n {s : Nat → Int32} {r : Nat → Nat → Int32} {f : Nat} (h : f = 36 ∨ f = 2 ∨ f = 3 ∨ f = 27 ∨ f = 28 ∨ f = 31) : ∀ n, pbR s r n f = r f
  | 0 => rfl
  | n + 1 => (mvR_n h).trans (pbR_n h n)
theorem pnG_n {i : Nat} {s : Nat → Int32} {r : Nat → Nat → Int32} {f : Nat} (h1 : ¬ f = 9) (h2 : ¬ f = 12) : pnG i s r f = r f := by
  unfold pnG gwR
  rw [up2_nn _ _ _ h2, up2_nn _ _ _ h1]
theorem pnI_n {x : Int32} {i : Nat} {s : Nat → Int32} {r : Nat → Nat → Int32} {f : Nat} (h1 : f < 15 ∨ 25 < f) : pnI x i s r f = pnG i s r f := by
  unfold pnI
  rw [up2_nn _ _ _ (by omega), up2_nn _ _ _ (by omega), up2_nn _ _ _ (by omega), up2_nn _ _ _ (by omega), up2_nn _ _ _ (by omega), up2_nn _ _ _ (by omega), up2_nn _ _ _ (by omega), up2_nn _ _ _ (by omega), up2_nn _ _ _ (by omega), up2_nn _ _ _ (by omega), up2_nn _ _ _ (by omega), zsw_nn _ _ (by omega)]
theorem pnR_n {x : Int32} {i : Nat} {s : Nat → Int32} {r : Nat → Nat → Int32} {f : Nat} (h1 : f < 9 ∨ 25 < f) : pnR x i s r f = r f := by
  unfold pnR
  rw [up2_nn _ _ _ (by omega), up2_nn _ _ _ (by omega), up2_nn _ _ _ (by omega), pnI_n (by omega), pnG_n (by omega) (by omega)]
/-- the hives' noon -/
noncomputable def pcW (s : Nat → Int32) (r : Nat → Nat → Int32) : Nat → SR
  | 0 => (s, r)
  | n + 1 => @ite _ (pnY n (pcW s r n).1 (pcW s r n).2) (Classical.propDecidable _) (pnS (pcW s r n).1, pnR (nI n) n (pcW s r n).1 (pcW s r n).2) ((pcW s r n).1, pnG n (pcW s r n).1 (pcW s r n).2)
theorem pcW_y {s : Nat → Int32} {r : Nat → Nat → Int32} {n : Nat} (h : pnY n (pcW s r n).1 (pcW s r n).2) : pcW s r (n + 1) = (pnS (pcW s r n).1, pnR (nI n) n (pcW s r n).1 (pcW s r n).2) := if_pos h
theorem pcW_z {s : Nat → Int32} {r : Nat → Nat → Int32} {n : Nat} (h : ¬ pnY n (pcW s r n).1 (pcW s r n).2) : pcW s r (n + 1) = ((pcW s r n).1, pnG n (pcW s r n).1 (pcW s r n).2) := if_neg h
theorem pnS_n {s : Nat → Int32} {f : Nat} (h1 : ¬ f = 14) (h2 : ¬ f = 122) : pnS s f = s f := by simp [pnS, upd, h1, h2]
theorem pnS_14 {s : Nat → Int32} (h0 : 0 ≤ (s 14).toInt) (h : s 14 < 60) : (pnS s 14).toInt = (s 14).toInt + 1 := by
  show (s 14 + 1).toInt = _
  rw [t_lt] at h
  have z : (60 : Int32).toInt = 60 := rfl
  exact p1 h0 (by omega)
theorem pcW_i {s : Nat → Int32} {r : Nat → Nat → Int32} (h0 : 0 ≤ (s 14).toInt) (h1 : (s 14).toInt ≤ 60) : ∀ n, (∀ f, ¬ f = 14 → ¬ f = 122 → (pcW s r n).1 f = s f) ∧ (s 14).toInt ≤ ((pcW s r n).1 14).toInt ∧ ((pcW s r n).1 14).toInt ≤ 60 ∧ (∀ f, f < 9 ∨ 25 < f → (pcW s r n).2 f = r f)
  | 0 => ⟨fun _ _ _ => rfl, Int.le_refl _, h1, fun _ _ => rfl⟩
  | n + 1 => by
    have q := pcW_i (r := r) h0 h1 n
    by_cases c : pnY n (pcW s r n).1 (pcW s r n).2
    · rw [pcW_y c]
      have e := pnS_14 (s := (pcW s r n).1) (by omega) c.2
      have c2 := c.2
      rw [t_lt] at c2
      have z : (60 : Int32).toInt = 60 := rfl
      refine ⟨fun f a b => (pnS_n a b).trans (q.1 f a b), ?_, ?_, fun f a => (pnR_n a).trans (q.2.2.2 f a)⟩
      · show _ ≤ (pnS (pcW s r n).1 14).toInt
        omega
      · show (pnS (pcW s r n).1 14).toInt ≤ 60
        omega
    · rw [pcW_z c]
      exact ⟨q.1, q.2.1, q.2.2.1, fun f a => (pnG_n (by omega) (by omega)).trans (q.2.2.2 f a)⟩
theorem pcW_m {s : Nat → Int32} {r : Nat → Nat → Int32} (h0 : 0 ≤ (s 14).toInt) (h1 : (s 14).toInt ≤ 60) {n m : Nat} (h : n ≤ m) : ((pcW s r n).1 14).toInt ≤ ((pcW s r m).1 14).toInt := by
  induction m with
  | zero => rw [show n = 0 by omega]; exact Int.le_refl _
  | succ m ih =>
    by_cases e : n = m + 1
    · rw [e]; exact Int.le_refl _
    · have q := ih (by omega)
      have w := pcW_i (r := r) h0 h1 m
      by_cases c : pnY m (pcW s r m).1 (pcW s r m).2
      · rw [pcW_y c]
        have e2 := pnS_14 (s := (pcW s r m).1) (by omega) c.2
        show _ ≤ (pnS (pcW s r m).1 14).toInt
        omega
      · rw [pcW_z c]; exact q
theorem ix_mono {x y : Int32} (h0 : 0 ≤ x.toInt) (h : x.toInt ≤ y.toInt) : x.toNatClampNeg ≤ y.toNatClampNeg := by
  have a := t_ix h0
  have b := t_ix (x := y) (by omega)
  omega
theorem cBd_of {s s' : Nat → Int32} (hb : cBd s) (h6 : s' 6 = s 6) (h0 : 0 ≤ (s' 14).toInt) (h1 : (s' 14).toInt ≤ 60) (h26 : s' 26 = s 26) (h39 : s' 39 = s 39) : cBd s' := by
  unfold cBd
  rw [h6, h26, h39]
  exact ⟨hb.1, ⟨h0, h1⟩, hb.2.2.1, hb.2.2.2⟩
def phA (s : Nat → Int32) (r : Nat → Nat → Int32) : Nat → Nat → Int32 := paR (fTa (r 2 (Int32.toNatClampNeg (s1H s 1 / 24)))) (s1H s 1) r (s 14).toNatClampNeg
def phB (s : Nat → Int32) (r : Nat → Nat → Int32) : Nat → Nat → Int32 := pbR (s1H s) (phA s r) (s 26).toNatClampNeg
noncomputable def phX (s : Nat → Int32) (r : Nat → Nat → Int32) : SR := if s1H s 1 - s1H s 1 / 24 * 24 = 12 then pcW (s1H s) (phB s r) (s 6).toNatClampNeg else (s1H s, phB s r)
/-- what an hour wants -/
def kH (s : Nat → Int32) (r : Nat → Nat → Int32) : Prop := cBd s ∧ 0 ≤ (s 1).toInt ∧ (s 1).toInt < 743 ∧ (s 26).toInt ≤ 12 ∧ ∀ j, kq s r j
theorem s1H_1 {s : Nat → Int32} (h0 : 0 ≤ (s 1).toInt) (h1 : (s 1).toInt < 743) : (s1H s 1).toInt = (s 1).toInt + 1 := p1 h0 (by omega)
theorem phA_q {s : Nat → Int32} {r : Nat → Nat → Int32} (h : ∀ j, kq s r j) : ∀ j, kq (s1H s) (phA s r) j := fun j => kq_eq (h j) rfl (paR_n (by decide) (by decide) (by decide) _) (paR_n (by decide) (by decide) (by decide) _)

set_option maxHeartbeats 1600000 in
set_option maxRecDepth 100000 in
theorem c_X9_passHour {l : Launch} {D : va_G} {cI cZ cB cO cR cJ : ClassId} {Hb : Heap} {K : kTx} {l0 : Nat → Prop} {ad : Nat → Nat} {ce0 : Nat → va_E} (s : Nat → Int32) (r : Nat → Nat → Int32)  (hH9 : kH s r) : Met l yX9_passHour wsX9_passHour { frames := 8, cells := 2 * (((phX s r).1 14).toNatClampNeg - (s 14).toNatClampNeg), slots := 84 * (((phX s r).1 14).toNatClampNeg - (s 14).toNatClampNeg), locals := 203 } (va_Pc [.ref (ad 100)] (kP D (tyL cI cZ cB cO cR cJ) Hb K (lvC l0 s) ad (kJ ce0 ad K.2.2.1 cI cB cO cR s r))) (mQ D Hb l0 ad (lvA l0) none ce0 K.2.2.1 cI cB cO cR ((phX s r).1) ((phX s r).2)) (2 * (((phX s r).1 14).toNatClampNeg - (s 14).toNatClampNeg)) (84 * (((phX s r).1 14).toNatClampNeg - (s 14).toNatClampNeg)) (gA Hb) := by
  refine Met.ofW (cc := cX9_passHour) (maxL := 3) (ret := none) (by decide) rfl ?_
  intro p0 e0 s0 m0 args below meth c0 s₁ B hml hv
  obtain ⟨rfl, hG, hK, hE⟩ := hv
  have hx := B.exec
  have hb := B.bytes
  have hr := B.returns
  have hts := atoms_spec (ws := wsX9_passHour) B.pre
  have hown : s0.vm.findClass RX9 = some m0.cls := findClass_of_methodNamed B.named
  have hlocks := B.notSynchronized
  have S : kX p0 m0 c0 cX9_passHour 3 s0 _ wsX9_passHour RX9 D (tyL cI cZ cB cO cR cJ) Hb K := ⟨⟨hx, hb, hml, hown, hts⟩, hK, hE⟩
  have hL : gL Hb [] := gL.nil
  have hH := hG.2.2.2.2
  have hl := lv_entry ([.ref (ad 100)]) (n := 3) (Nat.le_of_ble_eq_true rfl)
  rw [lg_entry_eq]
  generalize (lg_sl ([.ref (ad 100)]) ++ List.replicate (3 - (lg_sl ([.ref (ad 100)])).length) Slot.unset).toArray = ls at hl ⊢
  have hl : lv_has ls 3 [(0, .ref (ad 100))] := hl
  have hlv : kL (lvC l0 s) s := lvC_L
  have hz := hH9.1
  have hk12 := hH9.2.2.2.1
  have hn1 := s1H_1 hH9.2.1 hH9.2.2.1
  have hn0 := hH9.2.1
  have hn7 := hH9.2.2.1
  have hq9 := hH9.2.2.2.2
  have hlvH : kL (lvC l0 s) (s1H s) := hlv.upn (by decide) (by decide) (by decide) (by decide) _
  refine lv_aload_n hx hb dX9_passHour_0 rfl (lv_at hl 0 rfl) ?_
  refine lv_dup hx hb dX9_passHour_1 rfl ?_
  refine k_gi (C := RX9) (T := TX9) (N := 14) (ci := 10) (v := s 1) S hG (fun w h => List.mem_cons_of_mem _ (List.mem_append_left _ (List.mem_append_left _ (List.mem_append_left _ (List.mem_append_left _ (List.mem_append_left _ (List.mem_append_left _ (List.mem_append_left _ (List.mem_append_right _ h))))))))) 100 (hlv.f (by decide) (by decide)) rfl rfl 12 (by decide) rfl (hts (.fieldLink RX9 71 "SwarmLine" "now" "I") (by decide +kernel)) rfl (rfl) dX9_passHour_2 ?_
  refine lv_iconst (v := 1) hx hb dX9_passHour_5 (by decide) ?_
  refine lv_iadd hx hb dX9_passHour_6 ?_
  refine k_pi (C := RX9) (T := TX9) (N := 14) (ci := 10) (ty := .int) S hG hL (fun w h => List.mem_cons_of_mem _ (List.mem_append_left _ (List.mem_append_left _ (List.mem_append_left _ (List.mem_append_left _ (List.mem_append_left _ (List.mem_append_left _ (List.mem_append_left _ (List.mem_append_right _ h))))))))) tyX9 tyX9_ok nmX9 100 (hlv.f (by decide) (by decide)) rfl rfl 12 (by decide) rfl (hts (.fieldLink RX9 71 "SwarmLine" "now" "I") (by decide +kernel)) rfl (by decide +kernel) rfl rfl (Nat.le_of_ble_eq_true rfl) (kw_100_now _) dX9_passHour_7 (fun H locs hG hL => ?_)
  have hG : gW D Hb (lvC l0 s) ad (kJ ce0 ad K.2.2.1 cI cB cO cR (s1H s) r) H := hG
  refine lv_aload_n hx hb dX9_passHour_10 rfl (lv_at hl 0 rfl) ?_
  refine k_ga (C := RX9) (T := TX9) (N := 14) (ci := 10) (v := .ref (ad 103)) S hG (fun w h => List.mem_cons_of_mem _ (List.mem_append_left _ (List.mem_append_left _ (List.mem_append_left _ (List.mem_append_left _ (List.mem_append_left _ (List.mem_append_left _ (List.mem_append_left _ (List.mem_append_right _ h))))))))) 100 (hlv.f (by decide) (by decide)) rfl rfl 2 (by decide) rfl (hts (.fieldLink RX9 26 "SwarmLine" "sky" "LSwarmLine$Sky;") (by decide +kernel)) rfl dX9_passHour_11 ?_
  refine lv_aload_n hx hb dX9_passHour_14 rfl (lv_at hl 0 rfl) ?_
  refine k_callV (n := 0) (As := []) (rest := [.ref (ad 103)]) (st1 := .int (s1H s 1 / 24) :: [.ref (ad 103)]) (k := 100) (ci := 10) S hG hL (hlv.f (by decide) (by decide)) rfl rfl (c_X9_today (s1H s) r hlvH   ) gX9_passHour_X9_today rfl ⟨rfl, rfl⟩ (by decide +kernel) ⟨Nat.le_of_ble_eq_true rfl, Nat.le_of_ble_eq_true rfl⟩ rfl hl.1 rfl (Nat.le_of_ble_eq_true rfl) dX9_passHour_15 ⟨by first | exact Nat.zero_le _ | exact hc1, by first | exact Nat.zero_le _ | exact hc2⟩ (rfl) (fun H locs hG hL => ?_)
  refine k_callV (n := 1) (As := [.int (s1H s 1 / 24)]) (rest := []) (st1 := .int (r 2 (Int32.toNatClampNeg (s1H s 1 / 24))) :: []) (k := 103) (ci := 6) S hG hL (hlv.f (by decide) (by decide)) rfl rfl (c_X5_warmthOf (s1H s) r hlvH  (s1H s 1 / 24) (day_0 (by omega))) gX9_passHour_X5_warmthOf rfl ⟨rfl, rfl⟩ (by decide +kernel) ⟨Nat.le_of_ble_eq_true rfl, Nat.le_of_ble_eq_true rfl⟩ rfl hl.1 rfl (Nat.le_of_ble_eq_true rfl) dX9_passHour_18 ⟨by first | exact Nat.zero_le _ | exact hc1, by first | exact Nat.zero_le _ | exact hc2⟩ (by rw [cap_day (by omega) (by omega)]; rfl) (fun H locs hG hL => ?_)
  refine m_callP (n := 1) (As := [.int (r 2 (Int32.toNatClampNeg (s1H s 1 / 24)))]) (rest := []) (st1 := .int (fTa (r 2 (Int32.toNatClampNeg (s1H s 1 / 24)))) :: []) S.1 (c_X5_lossAt (r 2 (Int32.toNatClampNeg (s1H s 1 / 24)))) gX9_passHour_X5_lossAt rfl (by decide +kernel) ⟨Nat.le_of_ble_eq_true rfl, Nat.le_of_ble_eq_true rfl⟩ rfl hl.1 rfl (Nat.le_of_ble_eq_true rfl) dX9_passHour_21 ⟨by first | exact Nat.zero_le _ | exact hc1, by first | exact Nat.zero_le _ | exact hc2⟩ (rfl) ?_
  refine lv_istore_n (lv' := [(1, .int (fTa (r 2 (Int32.toNatClampNeg (s1H s 1 / 24))))), (0, .ref (ad 100))]) hx hb dX9_passHour_24 rfl hl (by decide) rfl (fun ls hl => ?_)
  refine lv_iconst (v := 0) hx hb dX9_passHour_25 (by decide) ?_
  refine lv_istore_n (lv' := [(2, .int 0), (1, .int (fTa (r 2 (Int32.toNatClampNeg (s1H s 1 / 24))))), (0, .ref (ad 100))]) hx hb dX9_passHour_26 rfl hl (by decide) rfl (fun ls hl => ?_)
  have LP : ∀ (n : Nat) (i : Nat) (x : Int32) (rv : Nat → Nat → Int32) (ex : x = nI i) (hi : i ≤ (s 14).toNatClampNeg) (hn : (s 14).toNatClampNeg + 1 ≤ i + n) (hR : rv = paR (fTa (r 2 (Int32.toNatClampNeg (s1H s 1 / 24)))) (s1H s 1) r i), ∀ (H : Heap) (locs : List Loc), gW D Hb (lvC l0 s) ad (kJ ce0 ad K.2.2.1 cI cB cO cR (s1H s) rv) H → gL Hb locs → ∀ (ls : Array Slot), lv_has ls 3 [(0, .ref (ad 100)), (1, .int (fTa (r 2 (Int32.toNatClampNeg (s1H s 1 / 24))))), (2, .int x)] → W p0 l e0 (headSpec wsX9_passHour { frames := 8, cells := 2 * (((phX s r).1 14).toNatClampNeg - (s 14).toNatClampNeg), slots := 84 * (((phX s r).1 14).toNatClampNeg - (s 14).toNatClampNeg), locals := 203 }).room s0 m0 ([.ref (ad 100)] : List Value).toArray below meth c0 H locs 0 0 (MQ below (mQ D Hb l0 ad (lvA l0) none ce0 K.2.2.1 cI cB cO cR ((phX s r).1) ((phX s r).2)) ([.ref (ad 100)] : List Value).toArray s0 (2 * (((phX s r).1 14).toNatClampNeg - (s 14).toNatClampNeg)) (84 * (((phX s r).1 14).toNatClampNeg - (s 14).toNatClampNeg)) (gA Hb)) (F0 m0 27 ls []) := by
    intro n
    induction n with
    | zero => intro i x rv ex hi hn hR; exact absurd hn (by omega)
    | succ n ih =>
      intro i x rv ex hi hn hR H locs hG hL ls hl
      have hbd : (s 14).toNatClampNeg ≤ 60 := t_ixl hz.2.1.1 hz.2.1.2; have hii : Int32.toNatClampNeg x = i := by { rw [ex]; exact ix_nI (by omega) }
      refine lv_iload_n hx hb dX9_passHour_27 rfl (lv_at hl 2 rfl) ?_
      refine lv_aload_n hx hb dX9_passHour_28 rfl (lv_at hl 0 rfl) ?_
      refine k_ga (C := RX9) (T := TX9) (N := 14) (ci := 10) (v := .ref (ad 106)) S hG (fun w h => List.mem_cons_of_mem _ (List.mem_append_left _ (List.mem_append_left _ (List.mem_append_left _ (List.mem_append_left _ (List.mem_append_left _ (List.mem_append_left _ (List.mem_append_left _ (List.mem_append_right _ h))))))))) 100 (hlv.f (by decide) (by decide)) rfl rfl 5 (by decide) rfl (hts (.fieldLink RX9 44 "SwarmLine" "swarms" "Ljava/util/ArrayList;") (by decide +kernel)) rfl dX9_passHour_29 ?_
      refine k_callV (n := 0) (As := []) (rest := [.int x]) (st1 := .int (s 14) :: [.int x]) (k := 106) (ci := 0) S hG hL (hlv.f (by decide) (by decide)) rfl rfl (c_size1 (s1H s) rv hlvH   ) gX9_passHour_Jx4a65c_size_8abf5 rfl ⟨rfl, rfl⟩ (by decide +kernel) ⟨Nat.le_of_ble_eq_true rfl, Nat.le_of_ble_eq_true rfl⟩ rfl hl.1 rfl (Nat.le_of_ble_eq_true rfl) dX9_passHour_32 ⟨by first | exact Nat.zero_le _ | exact hc1, by first | exact Nat.zero_le _ | exact hc2⟩ (rfl) (fun H locs hG hL => ?_)
      refine lv_icmp_ge (tgt := 63) hx hb dX9_passHour_35 (by decide) (fun c35 => ?_) (fun c35 => ?_)
      ·
        have hEq := cl_ge hz.2.1.1 hi (ex ▸ c35)
        refine lv_iconst (v := 0) hx hb dX9_passHour_63 (by decide) ?_
        refine lv_istore_n (lv' := [(2, .int 0), (0, .ref (ad 100)), (1, .int (fTa (r 2 (Int32.toNatClampNeg (s1H s 1 / 24)))))]) hx hb dX9_passHour_64 rfl hl (by decide) rfl (fun ls hl => ?_)
        have LP2 : ∀ (n2 : Nat) (i2 : Nat) (x2 : Int32) (rw : Nat → Nat → Int32) (ex2 : x2 = nI i2) (hi2 : i2 ≤ (s 26).toNatClampNeg) (hn2 : (s 26).toNatClampNeg + 1 ≤ i2 + n2) (hR2 : rw = pbR (s1H s) (phA s r) i2), ∀ (H : Heap) (locs : List Loc), gW D Hb (lvC l0 s) ad (kJ ce0 ad K.2.2.1 cI cB cO cR (s1H s) rw) H → gL Hb locs → ∀ (ls : Array Slot), lv_has ls 3 [(0, .ref (ad 100)), (1, .int (fTa (r 2 (Int32.toNatClampNeg (s1H s 1 / 24))))), (2, .int x2)] → W p0 l e0 (headSpec wsX9_passHour { frames := 8, cells := 2 * (((phX s r).1 14).toNatClampNeg - (s 14).toNatClampNeg), slots := 84 * (((phX s r).1 14).toNatClampNeg - (s 14).toNatClampNeg), locals := 203 }).room s0 m0 ([.ref (ad 100)] : List Value).toArray below meth c0 H locs 0 0 (MQ below (mQ D Hb l0 ad (lvA l0) none ce0 K.2.2.1 cI cB cO cR ((phX s r).1) ((phX s r).2)) ([.ref (ad 100)] : List Value).toArray s0 (2 * (((phX s r).1 14).toNatClampNeg - (s 14).toNatClampNeg)) (84 * (((phX s r).1 14).toNatClampNeg - (s 14).toNatClampNeg)) (gA Hb)) (F0 m0 65 ls []) := by
          intro n2
          induction n2 with
          | zero => intro i2 x2 rw ex2 hi2 hn2 hR2; exact absurd hn2 (by omega)
          | succ n2 ih2 =>
            intro i2 x2 rw ex2 hi2 hn2 hR2 H locs hG hL ls hl
            have hbd2 : (s 26).toNatClampNeg ≤ 12 := t_ixl hz.2.2.1.1 hk12; have hii2 : Int32.toNatClampNeg x2 = i2 := by { rw [ex2]; exact ix_nI (by omega) }
            refine lv_iload_n hx hb dX9_passHour_65 rfl (lv_at hl 2 rfl) ?_
            refine lv_aload_n hx hb dX9_passHour_66 rfl (lv_at hl 0 rfl) ?_
            refine k_ga (C := RX9) (T := TX9) (N := 14) (ci := 10) (v := .ref (ad 107)) S hG (fun w h => List.mem_cons_of_mem _ (List.mem_append_left _ (List.mem_append_left _ (List.mem_append_left _ (List.mem_append_left _ (List.mem_append_left _ (List.mem_append_left _ (List.mem_append_left _ (List.mem_append_right _ h))))))))) 100 (hlv.f (by decide) (by decide)) rfl rfl 6 (by decide) rfl (hts (.fieldLink RX9 47 "SwarmLine" "keepers" "Ljava/util/ArrayList;") (by decide +kernel)) rfl dX9_passHour_67 ?_
            refine k_callV (n := 0) (As := []) (rest := [.int x2]) (st1 := .int (s 26) :: [.int x2]) (k := 107) (ci := 0) S hG hL (hlv.f (by decide) (by decide)) rfl rfl (c_size2 (s1H s) rw hlvH   ) gX9_passHour_Jx4a65c_size_8abf5 rfl ⟨rfl, rfl⟩ (by decide +kernel) ⟨Nat.le_of_ble_eq_true rfl, Nat.le_of_ble_eq_true rfl⟩ rfl hl.1 rfl (Nat.le_of_ble_eq_true rfl) dX9_passHour_70 ⟨by first | exact Nat.zero_le _ | exact hc1, by first | exact Nat.zero_le _ | exact hc2⟩ (rfl) (fun H locs hG hL => ?_)
            refine lv_icmp_ge (tgt := 98) hx hb dX9_passHour_73 (by decide) (fun c73 => ?_) (fun c73 => ?_)
            ·
              have hEq2 := cl_ge hz.2.2.1.1 hi2 (ex2 ▸ c73)
              refine lv_aload_n hx hb dX9_passHour_98 rfl (lv_at hl 0 rfl) ?_
              refine k_gi (C := RX9) (T := TX9) (N := 14) (ci := 10) (v := (s1H s) 1) S hG (fun w h => List.mem_cons_of_mem _ (List.mem_append_left _ (List.mem_append_left _ (List.mem_append_left _ (List.mem_append_left _ (List.mem_append_left _ (List.mem_append_left _ (List.mem_append_left _ (List.mem_append_right _ h))))))))) 100 (hlv.f (by decide) (by decide)) rfl rfl 12 (by decide) rfl (hts (.fieldLink RX9 71 "SwarmLine" "now" "I") (by decide +kernel)) rfl (rfl) dX9_passHour_99 ?_
              refine lv_bipush (v := 24) hx hb dX9_passHour_102 (by decide) ?_
              refine lv_irem hx hb dX9_passHour_104 (by decide) ?_
              refine lv_bipush (v := 12) hx hb dX9_passHour_105 (by decide) ?_
              refine lv_icmp_ne (tgt := 145) hx hb dX9_passHour_107 (by decide) (fun c107 => ?_) (fun c107 => ?_)
              ·
                have hX : phX s r = (s1H s, rw) := (by { unfold phX phB; rw [if_neg c107, ← hEq2, ← hR2] })
                exact mk_vret S.1 hr hlocks (fun _ _ => rfl) hG hL rfl (by rw [hX]) (by rw [hX]) dX9_passHour_145 (by show _ ≤ 2 * (((phX s r).1 14).toNatClampNeg - (s 14).toNatClampNeg); omega) (by show _ ≤ 84 * (((phX s r).1 14).toNatClampNeg - (s 14).toNatClampNeg); omega)
              ·
                refine lv_iconst (v := 0) hx hb dX9_passHour_110 (by decide) ?_
                refine lv_istore_n (lv' := [(2, .int 0), (0, .ref (ad 100)), (1, .int (fTa (r 2 (Int32.toNatClampNeg (s1H s 1 / 24)))))]) hx hb dX9_passHour_111 rfl hl (by decide) rfl (fun ls hl => ?_)
                have LP3 : ∀ (n3 : Nat) (adv : Nat → Nat) (hadv : ∀ j, lvA l0 j → adv j = ad j) (i3 : Nat) (x3 : Int32) (sy : Nat → Int32) (ry : Nat → Nat → Int32) (ex3 : x3 = nI i3) (hi3 : i3 ≤ (s 6).toNatClampNeg) (hn3 : (s 6).toNatClampNeg + 1 ≤ i3 + n3) (hW : (sy, ry) = pcW (s1H s) (phB s r) i3), ∀ (H : Heap) (locs : List Loc), gW D Hb (lvC l0 sy) adv (kJ ce0 adv K.2.2.1 cI cB cO cR sy ry) H → gL Hb locs → ∀ (ls : Array Slot), lv_has ls 3 [(0, .ref (adv 100)), (1, .int (fTa (r 2 (Int32.toNatClampNeg (s1H s 1 / 24))))), (2, .int x3)] → W p0 l e0 (headSpec wsX9_passHour { frames := 8, cells := 2 * (((phX s r).1 14).toNatClampNeg - (s 14).toNatClampNeg), slots := 84 * (((phX s r).1 14).toNatClampNeg - (s 14).toNatClampNeg), locals := 203 }).room s0 m0 ([.ref (ad 100)] : List Value).toArray below meth c0 H locs (2 * ((sy 14).toNatClampNeg - (s 14).toNatClampNeg)) (84 * ((sy 14).toNatClampNeg - (s 14).toNatClampNeg)) (MQ below (mQ D Hb l0 ad (lvA l0) none ce0 K.2.2.1 cI cB cO cR ((phX s r).1) ((phX s r).2)) ([.ref (ad 100)] : List Value).toArray s0 (2 * (((phX s r).1 14).toNatClampNeg - (s 14).toNatClampNeg)) (84 * (((phX s r).1 14).toNatClampNeg - (s 14).toNatClampNeg)) (gA Hb)) (F0 m0 112 ls []) := by
                  intro n3
                  induction n3 with
                  | zero => intro adv hadv i3 x3 sy ry ex3 hi3 hn3 hW; exact absurd hn3 (by omega)
                  | succ n3 ih3 =>
                    intro adv hadv i3 x3 sy ry ex3 hi3 hn3 hW H locs hG hL ls hl
                    have hlv : kL (lvC l0 sy) sy := lvC_L; have hbd3 : (s 6).toNatClampNeg ≤ 60 := t_ixl hz.1.1 hz.1.2; have hii3 : Int32.toNatClampNeg x3 = i3 := by { rw [ex3]; exact ix_nI (by omega) }; have hWi := pcW_i (s := s1H s) (r := phB s r) hz.2.1.1 hz.2.1.2 i3; rw [← hW] at hWi; have hs6 : sy 6 = s 6 := hWi.1 6 (by decide) (by decide); have hs1 : sy 1 = s1H s 1 := hWi.1 1 (by decide) (by decide); have hcy : cBd sy := (cBd_of hz hs6 (Int.le_trans hz.2.1.1 hWi.2.1) hWi.2.2.1 (hWi.1 26 (by decide) (by decide)) (hWi.1 39 (by decide) (by decide))); have hy14 := hcy.n.2.1; have hm14 : (s 14).toNatClampNeg ≤ (sy 14).toNatClampNeg := ix_mono hz.2.1.1 hWi.2.1; have hPX : phX s r = pcW (s1H s) (phB s r) (s 6).toNatClampNeg := if_pos c107; have hmx : (sy 14).toNatClampNeg ≤ ((phX s r).1 14).toNatClampNeg := (by { have q := pcW_m (s := s1H s) (r := phB s r) hz.2.1.1 hz.2.1.2 hi3; rw [← hW, ← hPX] at q; exact ix_mono hcy.2.1.1 q }); have hc1 : 2 * ((sy 14).toNatClampNeg - (s 14).toNatClampNeg) + 0 ≤ 2 * (((phX s r).1 14).toNatClampNeg - (s 14).toNatClampNeg) := (by omega); have hc2 : 84 * ((sy 14).toNatClampNeg - (s 14).toNatClampNeg) + 0 ≤ 84 * (((phX s r).1 14).toNatClampNeg - (s 14).toNatClampNeg) := (by omega)
                    refine lv_iload_n hx hb dX9_passHour_112 rfl (lv_at hl 2 rfl) ?_
                    refine lv_aload_n hx hb dX9_passHour_113 rfl (lv_at hl 0 rfl) ?_
                    refine k_ga (C := RX9) (T := TX9) (N := 14) (ci := 10) (v := .ref (adv 105)) S hG (fun w h => List.mem_cons_of_mem _ (List.mem_append_left _ (List.mem_append_left _ (List.mem_append_left _ (List.mem_append_left _ (List.mem_append_left _ (List.mem_append_left _ (List.mem_append_left _ (List.mem_append_right _ h))))))))) 100 (hlv.f (by decide) (by decide)) rfl rfl 4 (by decide) rfl (hts (.fieldLink RX9 40 "SwarmLine" "hives" "Ljava/util/ArrayList;") (by decide +kernel)) rfl dX9_passHour_114 ?_
                    refine k_callV (n := 0) (As := []) (rest := [.int x3]) (st1 := .int (s 6) :: [.int x3]) (k := 105) (ci := 0) S hG hL (hlv.f (by decide) (by decide)) rfl rfl (c_size0 sy ry hlv   ) gX9_passHour_Jx4a65c_size_8abf5 rfl ⟨rfl, rfl⟩ (by decide +kernel) ⟨Nat.le_of_ble_eq_true rfl, Nat.le_of_ble_eq_true rfl⟩ rfl hl.1 rfl (Nat.le_of_ble_eq_true rfl) dX9_passHour_117 ⟨by first | exact Nat.zero_le _ | exact hc1, by first | exact Nat.zero_le _ | exact hc2⟩ (by rw [hs6]; rfl) (fun H locs hG hL => ?_)
                    refine lv_icmp_ge (tgt := 145) hx hb dX9_passHour_120 (by decide) (fun c120 => ?_) (fun c120 => ?_)
                    ·
                      have hEq3 := cl_ge hz.1.1 hi3 (ex3 ▸ c120); have hX : phX s r = (sy, ry) := (by { rw [hPX, ← hEq3]; exact hW.symm })
                      exact mk_vret S.1 hr hlocks (hadv) hG hL rfl (by rw [hX]) (by rw [hX]) dX9_passHour_145 (by show _ ≤ 2 * (((phX s r).1 14).toNatClampNeg - (s 14).toNatClampNeg); omega) (by show _ ≤ 84 * (((phX s r).1 14).toNatClampNeg - (s 14).toNatClampNeg); omega)
                    ·
                      have hlt3 := cl_lt hz.1.1 hi3 (ex3 ▸ c120); have hmy : pnY i3 sy ry → (pnS sy 14).toNatClampNeg = (sy 14).toNatClampNeg + 1 ∧ (sy 14).toNatClampNeg + 1 ≤ ((phX s r).1 14).toNatClampNeg := (fun hY => by { have e := pnS_14 hcy.2.1.1 hY.2; have q := pcW_m (s := s1H s) (r := phB s r) hz.2.1.1 hz.2.1.2 (show i3 + 1 ≤ (s 6).toNatClampNeg from hlt3); rw [← hPX, pcW_y (by rw [← hW]; exact hY), ← hW] at q; have q2 : (pnS sy 14).toInt ≤ ((phX s r).1 14).toInt := q; have a := t_ix hcy.2.1.1; have h9 := hcy.2.1.1; have b := t_ix (x := pnS sy 14) (by omega); have c := t_ix (x := (phX s r).1 14) (by omega); omega })
                      refine lv_aload_n hx hb dX9_passHour_123 rfl (lv_at hl 0 rfl) ?_
                      refine lv_iload_n hx hb dX9_passHour_124 rfl (lv_at hl 2 rfl) ?_
                      refine lv_aload_n hx hb dX9_passHour_125 rfl (lv_at hl 0 rfl) ?_
                      refine k_ga (C := RX9) (T := TX9) (N := 14) (ci := 10) (v := .ref (adv 105)) S hG (fun w h => List.mem_cons_of_mem _ (List.mem_append_left _ (List.mem_append_left _ (List.mem_append_left _ (List.mem_append_left _ (List.mem_append_left _ (List.mem_append_left _ (List.mem_append_left _ (List.mem_append_right _ h))))))))) 100 (hlv.f (by decide) (by decide)) rfl rfl 4 (by decide) rfl (hts (.fieldLink RX9 40 "SwarmLine" "hives" "Ljava/util/ArrayList;") (by decide +kernel)) rfl dX9_passHour_126 ?_
                      refine lv_iload_n hx hb dX9_passHour_129 rfl (lv_at hl 2 rfl) ?_
                      refine k_callV (n := 1) (As := [.int x3]) (rest := [.int x3, .ref (adv 100)]) (st1 := .ref (adv (1000 + i3)) :: [.int x3, .ref (adv 100)]) (k := 105) (ci := 0) S hG hL (hlv.f (by decide) (by decide)) rfl rfl (c_get0 sy ry hlv  x3 (g_x0 ex3 (by omega)) (by rw [hs6]; exact g_x1 ex3 hlt3 (by omega) hz.1.1) (by rw [hs6]; exact hz.1.2)) gX9_passHour_Jx4a65c_get_915e3 rfl ⟨rfl, rfl⟩ (by decide +kernel) ⟨Nat.le_of_ble_eq_true rfl, Nat.le_of_ble_eq_true rfl⟩ rfl hl.1 rfl (Nat.le_of_ble_eq_true rfl) dX9_passHour_130 ⟨by first | exact Nat.zero_le _ | exact hc1, by first | exact Nat.zero_le _ | exact hc2⟩ (by rw [hii3]; rfl) (fun H locs hG hL => ?_)
                      refine k_cast (C := RX3) (T := TX3) (N := 7) (ci := 4) S hG (1000 + i3) (hlv.hv (by rw [hs6]; exact hlt3)) (kJ_hv (by omega)) rfl (hts (.classLink RX9 151 "SwarmLine$Hive") (by decide +kernel)) dX9_passHour_133 ?_
                      by_cases hY : pnY i3 sy ry
                      ·
                        refine m_callM (n := 2) (As := [.int x3, .ref (adv (1000 + i3))]) (rest := []) (k := 100) (ci := 10) S hG hL (hlv.f (by decide) (by decide)) rfl rfl (c_X9_passNoon_yes sy ry x3 i3 (by rw [hs6]; exact hlt3) (by omega) (ex3) (by rw [hs6]; exact hz.1.1) (by rw [hs6]; exact hz.1.2) (by rw [hs1]; omega) (by rw [hs1]; omega) (hY) (hcy)) gX9_passHour_X9_passNoon rfl ⟨rfl, rfl⟩ (by decide +kernel) ⟨Nat.le_of_ble_eq_true rfl, Nat.le_of_ble_eq_true rfl⟩ rfl hl.1 rfl (Nat.le_of_ble_eq_true rfl) dX9_passHour_136 (⟨by { show 2 * ((sy 14).toNatClampNeg - (s 14).toNatClampNeg) + 2 ≤ 2 * (((phX s r).1 14).toNatClampNeg - (s 14).toNatClampNeg); have q := hmy hY; omega }, by { show 84 * ((sy 14).toNatClampNeg - (s 14).toNatClampNeg) + 84 ≤ 84 * (((phX s r).1 14).toNatClampNeg - (s 14).toNatClampNeg); have q := hmy hY; omega }⟩) (fun ad1 H locs had1 hG hL => ?_)
                        have hlv : kL (lvC l0 (pnS sy)) (pnS sy) := lvC_L
                        have hl : lv_has ls 3 [(0, .ref (ad1 100)), (1, .int (fTa (r 2 (Int32.toNatClampNeg (s1H s 1 / 24))))), (2, .int x3)] := by { rw [had1 100 lvA_100]; exact hl }
                        refine lv_iinc (v := x3 + 1) (lv' := [(2, .int (x3 + 1)), (0, .ref (ad1 100)), (1, .int (fTa (r 2 (Int32.toNatClampNeg (s1H s 1 / 24)))))]) hx hb dX9_passHour_139 hl (k := 2) rfl (by rfl) (by decide) rfl (fun ls hl => ?_)
                        refine lv_goto (tgt := 112) hx hb dX9_passHour_142 (by decide) ?_
                        refine W.widen (k := 2 * (((pnS sy) 14).toNatClampNeg - (s 14).toNatClampNeg)) (n := 84 * (((pnS sy) 14).toNatClampNeg - (s 14).toNatClampNeg)) (by { have q := hmy hY; omega }) (by { have q := hmy hY; omega }) ?_
                        exact ih3  ad1 (fun j hj => (had1 j hj).trans ((hadv) j hj)) (i3 + 1) (x3 + 1) (pnS sy) (pnR x3 i3 sy ry) (by rw [ex3]; exact nI_1 i3) (hlt3) (by omega) (by rw [pcW_y (by rw [← hW]; exact hY), ← hW, ← ex3]) _ _ hG hL _ (lv_sub hl [1, 2, 0] rfl)
                      ·
                        refine k_callV (n := 2) (As := [.int x3, .ref (adv (1000 + i3))]) (rest := []) (st1 := []) (k := 100) (ci := 10) S hG hL (hlv.f (by decide) (by decide)) rfl rfl (c_X9_passNoon_no sy ry hlv  x3 i3 (by rw [hs6]; exact hlt3) (by omega) (ex3) (by rw [hs6]; exact hz.1.1) (by rw [hs6]; exact hz.1.2) (by rw [hs1]; omega) (by rw [hs1]; omega) (hY)) gX9_passHour_X9_passNoon rfl ⟨rfl, rfl⟩ (by decide +kernel) ⟨Nat.le_of_ble_eq_true rfl, Nat.le_of_ble_eq_true rfl⟩ rfl hl.1 rfl (Nat.le_of_ble_eq_true rfl) dX9_passHour_136 ⟨by first | exact Nat.zero_le _ | exact hc1, by first | exact Nat.zero_le _ | exact hc2⟩ (rfl) (fun H locs hG hL => ?_)
                        refine lv_iinc (v := x3 + 1) (lv' := [(2, .int (x3 + 1)), (0, .ref (adv 100)), (1, .int (fTa (r 2 (Int32.toNatClampNeg (s1H s 1 / 24)))))]) hx hb dX9_passHour_139 hl (k := 2) rfl (by rfl) (by decide) rfl (fun ls hl => ?_)
                        refine lv_goto (tgt := 112) hx hb dX9_passHour_142 (by decide) ?_
                        refine W.widen (k := 2 * ((sy 14).toNatClampNeg - (s 14).toNatClampNeg)) (n := 84 * ((sy 14).toNatClampNeg - (s 14).toNatClampNeg)) (by omega) (by omega) ?_
                        exact ih3  adv (hadv) (i3 + 1) (x3 + 1) sy (pnG i3 sy ry) (by rw [ex3]; exact nI_1 i3) (hlt3) (by omega) (by rw [pcW_z (by rw [← hW]; exact hY), ← hW]) _ _ hG hL _ (lv_sub hl [1, 2, 0] rfl)
                refine W.widen (k := 2 * (((s1H s) 14).toNatClampNeg - (s 14).toNatClampNeg)) (n := 84 * (((s1H s) 14).toNatClampNeg - (s 14).toNatClampNeg)) (Nat.zero_le _) (Nat.zero_le _) ?_
                exact LP3 ((s 6).toNatClampNeg + 1) ad (fun _ _ => rfl) 0 0 (s1H s) rw (rfl) (Nat.zero_le _) (by omega) (by rw [hR2, hEq2]; rfl) _ _ hG hL _ (lv_sub hl [1, 2, 0] rfl)
            ·
              have hlt2 := cl_lt hz.2.2.1.1 hi2 (ex2 ▸ c73)
              refine lv_aload_n hx hb dX9_passHour_76 rfl (lv_at hl 0 rfl) ?_
              refine lv_iload_n hx hb dX9_passHour_77 rfl (lv_at hl 2 rfl) ?_
              refine lv_aload_n hx hb dX9_passHour_78 rfl (lv_at hl 0 rfl) ?_
              refine k_ga (C := RX9) (T := TX9) (N := 14) (ci := 10) (v := .ref (ad 107)) S hG (fun w h => List.mem_cons_of_mem _ (List.mem_append_left _ (List.mem_append_left _ (List.mem_append_left _ (List.mem_append_left _ (List.mem_append_left _ (List.mem_append_left _ (List.mem_append_left _ (List.mem_append_right _ h))))))))) 100 (hlv.f (by decide) (by decide)) rfl rfl 6 (by decide) rfl (hts (.fieldLink RX9 47 "SwarmLine" "keepers" "Ljava/util/ArrayList;") (by decide +kernel)) rfl dX9_passHour_79 ?_
              refine lv_iload_n hx hb dX9_passHour_82 rfl (lv_at hl 2 rfl) ?_
              refine k_callV (n := 1) (As := [.int x2]) (rest := [.int x2, .ref (ad 100)]) (st1 := .ref (ad (3000 + i2)) :: [.int x2, .ref (ad 100)]) (k := 107) (ci := 0) S hG hL (hlv.f (by decide) (by decide)) rfl rfl (c_get2 (s1H s) rw hlvH  x2 (g_x0 ex2 (by omega)) (g_x1 ex2 hlt2 (by omega) hz.2.2.1.1) (hz.2.2.1.2)) gX9_passHour_Jx4a65c_get_915e3 rfl ⟨rfl, rfl⟩ (by decide +kernel) ⟨Nat.le_of_ble_eq_true rfl, Nat.le_of_ble_eq_true rfl⟩ rfl hl.1 rfl (Nat.le_of_ble_eq_true rfl) dX9_passHour_83 ⟨by first | exact Nat.zero_le _ | exact hc1, by first | exact Nat.zero_le _ | exact hc2⟩ (by rw [hii2]; rfl) (fun H locs hG hL => ?_)
              refine k_cast (C := RX4) (T := TX4) (N := 12) (ci := 5) S hG (3000 + i2) (hlv.kp hlt2) (kJ_kp (by omega)) rfl (hts (.classLink RX9 167 "SwarmLine$Keeper") (by decide +kernel)) dX9_passHour_86 ?_
              refine k_callV (n := 2) (As := [.int x2, .ref (ad (3000 + i2))]) (rest := []) (st1 := []) (k := 100) (ci := 10) S hG hL (hlv.f (by decide) (by decide)) rfl rfl (c_X9_moveKeeper (s1H s) rw hlvH  x2 i2 hlt2 (by omega) (ex2) (hz.2.2.1.1) (hk12) (hz.2.1.1) (hz.2.1.2) (by rw [hR2]; exact pbR_q (phA_q hq9) i2 i2) (hz.2.2.2.2)) gX9_passHour_X9_moveKeeper rfl ⟨rfl, rfl⟩ (by decide +kernel) ⟨Nat.le_of_ble_eq_true rfl, Nat.le_of_ble_eq_true rfl⟩ rfl hl.1 rfl (Nat.le_of_ble_eq_true rfl) dX9_passHour_89 ⟨by first | exact Nat.zero_le _ | exact hc1, by first | exact Nat.zero_le _ | exact hc2⟩ (rfl) (fun H locs hG hL => ?_)
              refine lv_iinc (v := x2 + 1) (lv' := [(2, .int (x2 + 1)), (0, .ref (ad 100)), (1, .int (fTa (r 2 (Int32.toNatClampNeg (s1H s 1 / 24)))))]) hx hb dX9_passHour_92 hl (k := 2) rfl (by rfl) (by decide) rfl (fun ls hl => ?_)
              refine lv_goto (tgt := 65) hx hb dX9_passHour_95 (by decide) ?_
              exact ih2  (i2 + 1) (x2 + 1) (mvR i2 (s1H s) rw) (by rw [ex2]; exact nI_1 i2) (hlt2) (by omega) (by rw [hR2]; rfl) _ _ hG hL _ (lv_sub hl [1, 2, 0] rfl)
        exact LP2 ((s 26).toNatClampNeg + 1) 0 0 rv (rfl) (Nat.zero_le _) (by omega) (by rw [hR, hEq]; rfl) _ _ hG hL _ (lv_sub hl [1, 2, 0] rfl)
      ·
        have hlt := cl_lt hz.2.1.1 hi (ex ▸ c35)
        refine lv_aload_n hx hb dX9_passHour_38 rfl (lv_at hl 0 rfl) ?_
        refine k_ga (C := RX9) (T := TX9) (N := 14) (ci := 10) (v := .ref (ad 106)) S hG (fun w h => List.mem_cons_of_mem _ (List.mem_append_left _ (List.mem_append_left _ (List.mem_append_left _ (List.mem_append_left _ (List.mem_append_left _ (List.mem_append_left _ (List.mem_append_left _ (List.mem_append_right _ h))))))))) 100 (hlv.f (by decide) (by decide)) rfl rfl 5 (by decide) rfl (hts (.fieldLink RX9 44 "SwarmLine" "swarms" "Ljava/util/ArrayList;") (by decide +kernel)) rfl dX9_passHour_39 ?_
        refine lv_iload_n hx hb dX9_passHour_42 rfl (lv_at hl 2 rfl) ?_
        refine k_callV (n := 1) (As := [.int x]) (rest := []) (st1 := .ref (ad (2000 + i)) :: []) (k := 106) (ci := 0) S hG hL (hlv.f (by decide) (by decide)) rfl rfl (c_get1 (s1H s) rv hlvH  x (g_x0 ex (by omega)) (g_x1 ex hlt (by omega) hz.2.1.1) (hz.2.1.2)) gX9_passHour_Jx4a65c_get_915e3 rfl ⟨rfl, rfl⟩ (by decide +kernel) ⟨Nat.le_of_ble_eq_true rfl, Nat.le_of_ble_eq_true rfl⟩ rfl hl.1 rfl (Nat.le_of_ble_eq_true rfl) dX9_passHour_43 ⟨by first | exact Nat.zero_le _ | exact hc1, by first | exact Nat.zero_le _ | exact hc2⟩ (by rw [hii]; rfl) (fun H locs hG hL => ?_)
        refine k_cast (C := RX6) (T := TX6) (N := 11) (ci := 7) S hG (2000 + i) (hlv.sw hlt) (kJ_sw (by omega)) rfl (hts (.classLink RX9 292 "SwarmLine$Swarm") (by decide +kernel)) dX9_passHour_46 ?_
        refine lv_iload_n hx hb dX9_passHour_49 rfl (lv_at hl 1 rfl) ?_
        refine lv_aload_n hx hb dX9_passHour_50 rfl (lv_at hl 0 rfl) ?_
        refine k_gi (C := RX9) (T := TX9) (N := 14) (ci := 10) (v := (s1H s) 1) S hG (fun w h => List.mem_cons_of_mem _ (List.mem_append_left _ (List.mem_append_left _ (List.mem_append_left _ (List.mem_append_left _ (List.mem_append_left _ (List.mem_append_left _ (List.mem_append_left _ (List.mem_append_right _ h))))))))) 100 (hlv.f (by decide) (by decide)) rfl rfl 12 (by decide) rfl (hts (.fieldLink RX9 71 "SwarmLine" "now" "I") (by decide +kernel)) rfl (rfl) dX9_passHour_51 ?_
        refine k_callV (n := 2) (As := [.int (fTa (r 2 (Int32.toNatClampNeg (s1H s 1 / 24)))), .int ((s1H s) 1)]) (rest := []) (st1 := []) (k := 2000 + i) (ci := 7) S hG hL (hlv.sw hlt) (kJ_sw (by omega)) rfl (c_X6_losePatience (s1H s) rv hlvH i hlt (by omega) (fTa (r 2 (Int32.toNatClampNeg (s1H s 1 / 24)))) ((s1H s) 1) ) gX9_passHour_X6_losePatience rfl ⟨rfl, rfl⟩ (by decide +kernel) ⟨Nat.le_of_ble_eq_true rfl, Nat.le_of_ble_eq_true rfl⟩ rfl hl.1 rfl (Nat.le_of_ble_eq_true rfl) dX9_passHour_54 ⟨by first | exact Nat.zero_le _ | exact hc1, by first | exact Nat.zero_le _ | exact hc2⟩ (rfl) (fun H locs hG hL => ?_)
        refine lv_iinc (v := x + 1) (lv' := [(2, .int (x + 1)), (0, .ref (ad 100)), (1, .int (fTa (r 2 (Int32.toNatClampNeg (s1H s 1 / 24)))))]) hx hb dX9_passHour_57 hl (k := 2) rfl (by rfl) (by decide) rfl (fun ls hl => ?_)
        refine lv_goto (tgt := 27) hx hb dX9_passHour_60 (by decide) ?_
        exact ih  (i + 1) (x + 1) (lpR i (fTa (r 2 (Int32.toNatClampNeg (s1H s 1 / 24)))) ((s1H s) 1) rv) (by rw [ex]; exact nI_1 i) (hlt) (by omega) (by rw [hR]; rfl) _ _ hG hL _ (lv_sub hl [1, 2, 0] rfl)
  exact LP ((s 14).toNatClampNeg + 1) 0 0 r (rfl) (Nat.zero_le _) (by omega) (rfl) _ _ hG hL _ (lv_sub hl [2, 1, 0] rfl)
