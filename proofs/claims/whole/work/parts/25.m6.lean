/-! a call's text -/
abbrev FX : Type := Int32 × (Nat → Int32) × (Nat → Nat → Int32)
def nmX (to lo hi : Int32) (s : Nat → Int32) (r : Nat → Nat → Int32) : FX := (okN lo hi s r, sN lo hi s r, rN to lo hi s r)
def wrX (x : Int32) (s : Nat → Int32) (r : Nat → Nat → Int32) : FX := (0, upd s 64 x, r)
def r1F (s : Nat → Int32) (r : Nat → Nat → Int32) : Nat → Nat → Int32 := up2 r 66 (Int32.toNatClampNeg (fFc s r)) 1
def s1F (s : Nat → Int32) (r : Nat → Nat → Int32) : Nat → Int32 := upd (sSg s r) 63 (nI (aWe (sSg s r) (r1F s r)))
def plX (s : Nat → Int32) (r : Nat → Nat → Int32) : FX := if okN 0 19 s r = 0 then (0, sN 0 19 s r, rN 0 0 19 s r) else ((if okN 0 19 (sN 0 19 s r) (rN 0 0 19 s r) = 0 then 0 else 1), sN 0 19 (sN 0 19 s r) (rN 0 0 19 s r), rN 1 0 19 (sN 0 19 s r) (rN 0 0 19 s r))
def kfX (f : Int32) (s : Nat → Int32) (r : Nat → Nat → Int32) : FX := if f = 0 then plX s r else if f = 1 then nmX 2 1 9 s r else if f = 2 then nmX 3 0 (s 1) s r else if f = 3 then nmX 4 1 7 s r else (1, s, r)
theorem kfX_0 {f : Int32} (h : f = 0) (s : Nat → Int32) (r : Nat → Nat → Int32) : kfX f s r = plX s r := by subst h; rfl
theorem kfX_1 {f : Int32} (h : f = 1) (s : Nat → Int32) (r : Nat → Nat → Int32) : kfX f s r = nmX 2 1 9 s r := by subst h; rfl
theorem kfX_2 {f : Int32} (h : f = 2) (s : Nat → Int32) (r : Nat → Nat → Int32) : kfX f s r = nmX 3 0 (s 1) s r := by subst h; rfl
theorem kfX_3 {f : Int32} (h : f = 3) (s : Nat → Int32) (r : Nat → Nat → Int32) : kfX f s r = nmX 4 1 7 s r := by subst h; rfl
def rdF (s : Nat → Int32) (r : Nat → Nat → Int32) : FX := if fFc s r = -1 then wrX (nI (aSg s r)) (sSg s r) r else if r 66 (Int32.toNatClampNeg (fFc s r)) = 0 then kfX (fFc s r) (s1F s r) (r1F s r) else wrX (nI (aSg s r)) (sSg s r) r
theorem fFc_in {s : Nat → Int32} {r : Nat → Nat → Int32} (h : ¬ fFc s r = -1) : vp_in (fFc s r) 5 := by
  revert h
  unfold fFc
  repeat' split
  all_goals intro h
  · exact absurd rfl h
  all_goals exact vp_in_t (by decide) (by decide)
theorem sw3 {f : Int32} (h : f.toInt < 0 ∨ 3 < f.toInt) : ¬ f = 0 ∧ ¬ f = 1 ∧ ¬ f = 2 ∧ ¬ f = 3 := by
  have q : ∀ v : Int32, 0 ≤ v.toInt → v.toInt ≤ 3 → ¬ f = v := fun v a b e => by subst e; omega
  exact ⟨q 0 (by decide) (by decide), q 1 (by decide) (by decide), q 2 (by decide) (by decide), q 3 (by decide) (by decide)⟩
theorem nmR_le (t : Nat → Int32) (e a : Nat) : ∀ n j v, j ≤ (nmR t e a n j v).2.1 ∧ (j ≤ e → (nmR t e a n j v).2.1 ≤ e)
  | 0, j, v => ⟨Nat.le_refl _, fun h => h⟩
  | n + 1, j, v => by
    have ih := nmR_le t e a n (j + 1) (10 * v + t j - 48)
    unfold nmR
    split
    · exact ⟨Nat.le_refl _, fun h => h⟩
    · split
      · exact ⟨Nat.le_refl _, fun h => h⟩
      · split
        · exact ⟨Nat.le_refl _, fun h => h⟩
        · exact ⟨by omega, fun h => ih.2 (by omega)⟩
/-- two states of the reader: the text's end is the same, the second reader is further on, the place is inside -/
def tOn (s s' : Nat → Int32) : Prop := s' 62 = s 62 ∧ tB s' ∧ (s 63).toNatClampNeg ≤ (s' 63).toNatClampNeg ∧ s' 1 = s 1 ∧ s' 26 = s 26 ∧ s' 53 = s 53
theorem tOn.refl {s : Nat → Int32} (h : tB s) : tOn s s := ⟨rfl, h, Nat.le_refl _, rfl, rfl, rfl⟩
theorem tOn.trans {s s' s'' : Nat → Int32} (h : tOn s s') (h2 : tOn s' s'') : tOn s s'' := ⟨h2.1.trans h.1, h2.2.1, Nat.le_trans h.2.2.1 h2.2.2.1, h2.2.2.2.1.trans h.2.2.2.1, h2.2.2.2.2.1.trans h.2.2.2.2.1, h2.2.2.2.2.2.trans h.2.2.2.2.2⟩
theorem tOn_at {s : Nat → Int32} (h : tB s) {j : Nat} (hj : j ≤ tE s) (hi : (s 63).toNatClampNeg ≤ j) : tOn s (upd s 63 (nI j)) := ⟨rfl, tB_at h hj, by show _ ≤ Int32.toNatClampNeg (nI j); rw [ix_nI (by have := tB_e h; omega)]; exact hi, rfl, rfl, rfl⟩
theorem tOn_64 {s s' : Nat → Int32} (h : tOn s s') (x : Int32) : tOn s (upd s' 64 x) := h
theorem aSg_ge (s : Nat → Int32) (r : Nat → Nat → Int32) : (s 63).toNatClampNeg ≤ aSg s r := (skp_le _ _ _ _).1
theorem tOn_sg {s : Nat → Int32} {r : Nat → Nat → Int32} (h : tB s) : tOn s (sSg s r) := tOn_at h (aSg_le h) (aSg_ge s r)
theorem nmb_le {s : Nat → Int32} {r : Nat → Nat → Int32} (h : tB s) : aSg s r ≤ (nmb s r).2.1 ∧ (nmb s r).2.1 ≤ tE s := ⟨(nmR_le _ _ _ _ _ _).1, (nmR_le _ _ _ _ _ _).2 (aSg_le h)⟩
theorem tOn_N {s : Nat → Int32} {r : Nat → Nat → Int32} (lo hi : Int32) (h : tB s) : tOn s (sN lo hi s r) := by
  have q := nmb_le (r := r) h
  have q2 := aSg_ge s r
  have e : upd (sSg s r) 63 (nI (nmb s r).2.1) = upd s 63 (nI (nmb s r).2.1) := upd_tw ..
  unfold sN
  split
  · exact tOn_64 (tOn_sg h) _
  · split
    · rw [e]; exact tOn_64 (tOn_at h q.2 (by omega)) _
    · rw [e]; exact tOn_at h q.2 (by omega)
theorem rN_60 {f : Nat} (hf : ¬ f = 65) (to lo hi : Int32) (s : Nat → Int32) (r : Nat → Nat → Int32) : (rN to lo hi s r) f = r f := by
  unfold rN
  split
  · rfl
  · exact up2_nn _ _ _ hf
theorem tOn_s1F {s : Nat → Int32} {r : Nat → Nat → Int32} (h : tB s) : tOn s (s1F s r) := by
  have q := aWe_le (r := r1F s r) (tB_sg (r := r) h)
  have q1 := aSg_le (r := r) h
  have q2 := tB_e h
  rw [sSg_63, ix_nI (by omega)] at q
  have e : s1F s r = upd s 63 (nI (aWe (sSg s r) (r1F s r))) := upd_tw ..
  rw [e]
  exact tOn_at h q.1 (by have := aSg_ge s r; omega)
theorem tOn_pl {s : Nat → Int32} {r : Nat → Nat → Int32} (h : tB s) : tOn s (plX s r).2.1 := by
  have q := tOn_N (r := r) 0 19 h
  unfold plX
  split
  · exact q
  · dsimp only; exact q.trans (tOn_N (r := rN 0 0 19 s r) 0 19 q.2.1)
theorem tOn_F {s : Nat → Int32} {r : Nat → Nat → Int32} (h : tB s) : tOn s (rdF s r).2.1 := by
  have q := tOn_s1F (r := r) h
  unfold rdF
  split
  · exact tOn_64 (tOn_sg h) _
  · split
    · unfold kfX
      split
      · exact q.trans (tOn_pl (r := r1F s r) q.2.1)
      · split
        · unfold nmX; dsimp only; exact q.trans (tOn_N (r := r1F s r) _ _ q.2.1)
        · split
          · unfold nmX; dsimp only; exact q.trans (tOn_N (r := r1F s r) _ _ q.2.1)
          · split
            · unfold nmX; dsimp only; exact q.trans (tOn_N (r := r1F s r) _ _ q.2.1)
            · exact q
    · exact tOn_64 (tOn_sg h) _
theorem rdF_60 {f : Nat} (hf : ¬ f = 65) (hf2 : ¬ f = 66) (s : Nat → Int32) (r : Nat → Nat → Int32) : (rdF s r).2.2 f = r f := by
  have q : (r1F s r) f = r f := up2_nn _ _ _ hf2
  unfold rdF
  split
  · rfl
  · split
    · unfold kfX plX nmX
      repeat' split
      all_goals dsimp only
      all_goals (repeat rw [rN_60 hf])
      all_goals exact q
    · rfl
def fiX (s : Nat → Int32) (r : Nat → Nat → Int32) : FX := if vSg s r = -1 then (if r 66 (Int32.toNatClampNeg 0) = 0 then wrX (sSg s r 62) (sSg s r) r else (1, sSg s r, r)) else wrX (nI (aSg s r)) (sSg s r) r
def rdC : Nat → (Nat → Int32) → (Nat → Nat → Int32) → FX
  | 0, s, r => (0, s, r)
  | n + 1, s, r => if (rdF s r).1 = 0 then (0, (rdF s r).2.1, (rdF s r).2.2) else if vSg (rdF s r).2.1 (rdF s r).2.2 = 44 then rdC n (upd (sSg (rdF s r).2.1 (rdF s r).2.2) 63 (sSg (rdF s r).2.1 (rdF s r).2.2 63 + 1)) (rdF s r).2.2 else fiX (sSg (rdF s r).2.1 (rdF s r).2.2) (rdF s r).2.2
def r0C (r : Nat → Nat → Int32) : Nat → Nat → Int32 := up2 (up2 (up2 (up2 (up2 (up2 (up2 (up2 r 66 (Int32.toNatClampNeg 0) 0) 66 (Int32.toNatClampNeg 1) 0) 66 (Int32.toNatClampNeg 2) 0) 66 (Int32.toNatClampNeg 3) 0) 66 (Int32.toNatClampNeg 4) 0) 65 (Int32.toNatClampNeg 2) 0) 65 (Int32.toNatClampNeg 3) (-1)) 65 (Int32.toNatClampNeg 4) 0
def rdX (s : Nat → Int32) (r : Nat → Nat → Int32) : FX := rdC (1 + tE s) s (r0C r)
theorem vSg_on {s : Nat → Int32} {r : Nat → Nat → Int32} {k : Int32} (h : vSg s r = k) (hk : ¬ k = -1) : aSg s r < tE s := by
  unfold vSg at h
  split at h
  · exact absurd h.symm hk
  · omega
theorem vSg_id {s : Nat → Int32} {r : Nat → Nat → Int32} (h : tB s) : vSg (sSg s r) r = vSg s r := by
  unfold vSg
  rw [aSg_id h]; rfl
theorem i21 : ((2 : Int32) = 1) = False := eq_false (by decide)
theorem i31 : ((3 : Int32) = 1) = False := eq_false (by decide)
theorem i32 : ((3 : Int32) = 2) = False := eq_false (by decide)
theorem okN_b (lo hi : Int32) (s : Nat → Int32) (r : Nat → Nat → Int32) : narrow .boolean (.int (okN lo hi s r)) = .int (okN lo hi s r) := by
  refine (t_bool ?_).1
  unfold okN
  repeat' split
  all_goals first | exact Or.inl rfl | exact Or.inr rfl
theorem tOn_comma {s : Nat → Int32} {r : Nat → Nat → Int32} {k : Int32} (h : tB s) (hv : vSg s r = k) (hk : ¬ k = -1) : tOn s (upd (sSg s r) 63 (sSg s r 63 + 1)) ∧ (s 63).toNatClampNeg + 1 ≤ ((upd (sSg s r) 63 (sSg s r 63 + 1)) 63).toNatClampNeg := by
  have q := vSg_on hv hk
  have q1 := aSg_ge s r
  have q2 := tB_e h
  have e : upd (sSg s r) 63 (sSg s r 63 + 1) = upd s 63 (nI (aSg s r + 1)) := by
    rw [sSg_63, nI_1]; exact upd_tw ..
  rw [e]
  refine ⟨tOn_at h (by omega) (by omega), ?_⟩
  show _ ≤ Int32.toNatClampNeg (nI (aSg s r + 1))
  rw [ix_nI (by omega)]; omega
theorem tOn_E {s s' : Nat → Int32} (h : tOn s s') : tE s' = tE s := by unfold tE; rw [h.1]
set_option maxHeartbeats 4000000 in
set_option maxRecDepth 100000 in
theorem c_X10_readFact {l : Launch} {D : va_G} {cI cZ cB cO cR cJ : ClassId} {Hb : Heap} {lv : Nat → Prop} {ad : Nat → Nat} {ce0 : Nat → va_E} (hlv : lM lv)  (s : Nat → Int32) (r : Nat → Nat → Int32) (hB : tB s) : mMet l D cI cZ cB cO cR cJ Hb lv ad ce0 yX10_readFact wsX10_readFact 4 88 [.ref (ad 0)] s r (some (.int ((rdF s r).1))) ((rdF s r).2.1) ((rdF s r).2.2) := by
  refine Met.ofW (cc := cX10_readFact) (maxL := 2) (ret := (some .boolean)) (by decide) rfl ?_
  intro p0 e0 s0 m0 args below meth c0 s₁ B hml hv
  obtain ⟨rfl, hG, hK⟩ := hv
  have hx := B.exec
  have hb := B.bytes
  have hr := B.returns
  have hts := atoms_spec (ws := wsX10_readFact) B.pre
  have hown : s0.vm.findClass RX10 = some m0.cls := findClass_of_methodNamed B.named
  have hlocks := B.notSynchronized
  have S : mX p0 m0 c0 cX10_readFact 2 s0 _ wsX10_readFact D cI cZ cB cO cR cJ lv := ⟨⟨hx, hb, hml, hown, hts⟩, hK, fun w h => List.mem_cons_of_mem _ (List.mem_append_right _ h), hlv⟩
  have hL : gL Hb [] := gL.nil
  have hl := lv_entry ([.ref (ad 0)]) (n := 2) (Nat.le_of_ble_eq_true rfl)
  rw [lg_entry_eq]
  generalize (lg_sl ([.ref (ad 0)]) ++ List.replicate (2 - (lg_sl ([.ref (ad 0)])).length) Slot.unset).toArray = ls at hl ⊢
  have hl : lv_has ls 2 [(0, .ref (ad 0))] := hl
  refine lv_aload_n hx hb dX10_readFact_0 rfl (lv_at hl 0 rfl) ?_
  refine m_callV (n := 0) (As := []) (rest := []) (st1 := .int (fFc s r) :: []) S hG hL (c_X10_factOf hlv  s r (hB)) gX10_readFact_X10_factOf rfl (by decide +kernel) ⟨Nat.le_of_ble_eq_true rfl, Nat.le_of_ble_eq_true rfl⟩ rfl hl.1 rfl (Nat.le_of_ble_eq_true rfl) dX10_readFact_1 ⟨Nat.zero_le _, Nat.zero_le _⟩ (rfl) (fun H locs hG hL => ?_)
  refine lv_istore_n (lv' := [(1, .int (fFc s r)), (0, .ref (ad 0))]) hx hb dX10_readFact_4 rfl hl (by decide) rfl (fun ls hl => ?_)
  refine lv_iload_n hx hb dX10_readFact_5 rfl (lv_at hl 0 rfl) ?_
  refine lv_iconst (v := (-1)) hx hb dX10_readFact_6 (by decide) ?_
  refine lv_icmp_eq (tgt := 19) hx hb dX10_readFact_7 (by decide) (fun c7 => ?_) (fun c7 => ?_)
  ·
    refine lv_aload_n hx hb dX10_readFact_19 rfl (lv_at hl 1 rfl) ?_
    refine lv_aload_n hx hb dX10_readFact_20 rfl (lv_at hl 1 rfl) ?_
    refine m_gi (v := (sSg s r) 63) S hG 63 rfl (hts (.fieldLink RX10 238 "SwarmLineModel" "at" "I") (by decide +kernel)) dX10_readFact_21 rfl ?_
    refine m_callV (n := 1) (As := [.int ((sSg s r) 63)]) (rest := []) (st1 := .int 0 :: []) S hG hL (c_X10_wrong hlv ((sSg s r) 63) (sSg s r) r ) gX10_readFact_X10_wrong rfl (by decide +kernel) ⟨Nat.le_of_ble_eq_true rfl, Nat.le_of_ble_eq_true rfl⟩ rfl hl.1 rfl (Nat.le_of_ble_eq_true rfl) dX10_readFact_24 ⟨Nat.zero_le _, Nat.zero_le _⟩ (rfl) (fun H locs hG hL => ?_)
    exact m_zret S hr hlocks (by decide) hG hL dX10_readFact_27 (by simp only [rdF, wrX, sSg_63, eq_true c7, ↓reduceIte]) (by simp only [rdF, wrX, sSg_63, eq_true c7, ↓reduceIte]) (by simp only [rdF, wrX, sSg_63, eq_true c7, ↓reduceIte])
  ·
    refine lv_aload_n hx hb dX10_readFact_10 rfl (lv_at hl 1 rfl) ?_
    refine m_ga S hG 66 rfl (hts (.fieldLink RX10 171 "SwarmLineModel" "has" "[Z") (by decide +kernel)) dX10_readFact_11 ?_
    refine lv_iload_n hx hb dX10_readFact_14 rfl (lv_at hl 0 rfl) ?_
    refine m_zld (v := r 66 (Int32.toNatClampNeg (fFc s r))) S hG 66 rfl (show vp_in (fFc s r) 5 from fFc_in c7) dX10_readFact_15 (rfl) ?_
    refine lv_if_eq (tgt := 28) hx hb dX10_readFact_16 (by decide) (fun c16 => ?_) (fun c16 => ?_)
    ·
      refine lv_aload_n hx hb dX10_readFact_28 rfl (lv_at hl 1 rfl) ?_
      refine m_ga S hG 66 rfl (hts (.fieldLink RX10 171 "SwarmLineModel" "has" "[Z") (by decide +kernel)) dX10_readFact_29 ?_
      refine lv_iload_n hx hb dX10_readFact_32 rfl (lv_at hl 0 rfl) ?_
      refine lv_iconst (v := 1) hx hb dX10_readFact_33 (by decide) ?_
      refine m_zst S hG hL 66 rfl (by decide) (show vp_in (fFc s r) 5 from fFc_in c7) dX10_readFact_34 (fun H locs hG hL => ?_)
      refine lv_aload_n hx hb dX10_readFact_35 rfl (lv_at hl 1 rfl) ?_
      refine lv_aload_n hx hb dX10_readFact_36 rfl (lv_at hl 1 rfl) ?_
      refine m_callV (n := 0) (As := []) (rest := [.ref (ad 0)]) (st1 := .int (nI (aWe (sSg s r) (up2 r 66 (Int32.toNatClampNeg (fFc s r)) 1))) :: [.ref (ad 0)]) S hG hL (c_X10_wordEnd hlv  (sSg s r) (up2 r 66 (Int32.toNatClampNeg (fFc s r)) 1) (tB_sg hB)) gX10_readFact_X10_wordEnd rfl (by decide +kernel) ⟨Nat.le_of_ble_eq_true rfl, Nat.le_of_ble_eq_true rfl⟩ rfl hl.1 rfl (Nat.le_of_ble_eq_true rfl) dX10_readFact_37 ⟨Nat.zero_le _, Nat.zero_le _⟩ (rfl) (fun H locs hG hL => ?_)
      refine m_pi S hG hL 63 rfl (hts (.fieldLink RX10 238 "SwarmLineModel" "at" "I") (by decide +kernel)) dX10_readFact_40 (fun H locs hG hL => ?_)
      have hG : gW D Hb lv ad (mJ ce0 ad cI cZ (s1F s r) (r1F s r)) H := hG
      refine lv_iload_n hx hb dX10_readFact_43 rfl (lv_at hl 0 rfl) ?_
      by_cases csw : (fFc s r).toInt < 0 ∨ 3 < (fFc s r).toInt
      ·
        refine lv_tableOut (tgt := 133) hx hb dX10_readFact_44 csw (by decide) ?_
        refine lv_iconst (v := 1) hx hb dX10_readFact_133 (by decide) ?_
        exact m_zret S hr hlocks (by decide) hG hL dX10_readFact_134 (by simp only [rdF, wrX, sSg_63, eq_false c7, eq_true c16, ↓reduceIte]; simp only [kfX, eq_false (sw3 csw).1, eq_false (sw3 csw).2.1, eq_false (sw3 csw).2.2.1, eq_false (sw3 csw).2.2.2, ↓reduceIte]) (by simp only [rdF, wrX, sSg_63, eq_false c7, eq_true c16, ↓reduceIte]; simp only [kfX, eq_false (sw3 csw).1, eq_false (sw3 csw).2.1, eq_false (sw3 csw).2.2.1, eq_false (sw3 csw).2.2.2, ↓reduceIte]) (by simp only [rdF, wrX, sSg_63, eq_false c7, eq_true c16, ↓reduceIte]; simp only [kfX, eq_false (sw3 csw).1, eq_false (sw3 csw).2.1, eq_false (sw3 csw).2.2.1, eq_false (sw3 csw).2.2.2, ↓reduceIte])
      ·
        have csx : (fFc s r) = 0 ∨ (fFc s r) = 1 ∨ (fFc s r) = 2 ∨ (fFc s r) = 3 := by simp only [t_eq]; simp; omega
        rcases csx with csx | csx | csx | csx
        ·
          refine lv_tableIn (tgt := 76) (off := 32) hx hb dX10_readFact_44 (by rw [csx]; decide) (by rw [csx]; decide) (by rw [csx]; rfl) (by decide) ?_
          refine lv_aload_n hx hb dX10_readFact_76 rfl (lv_at hl 1 rfl) ?_
          refine lv_iconst (v := 0) hx hb dX10_readFact_77 (by decide) ?_
          refine lv_iconst (v := 0) hx hb dX10_readFact_78 (by decide) ?_
          refine lv_bipush (v := 19) hx hb dX10_readFact_79 (by decide) ?_
          refine m_callV (n := 3) (As := [.int 0, .int 0, .int 19]) (rest := []) (st1 := .int (okN 0 19 (s1F s r) (r1F s r)) :: []) S hG hL (c_X10_number hlv 0 0 19 (s1F s r) (r1F s r) ((tOn_s1F (r := r) hB).2.1) (vp_in_t (by decide) (by decide))) gX10_readFact_X10_number rfl (by decide +kernel) ⟨Nat.le_of_ble_eq_true rfl, Nat.le_of_ble_eq_true rfl⟩ rfl hl.1 rfl (Nat.le_of_ble_eq_true rfl) dX10_readFact_81 ⟨Nat.zero_le _, Nat.zero_le _⟩ (rfl) (fun H locs hG hL => ?_)
          refine lv_if_eq (tgt := 102) hx hb dX10_readFact_84 (by decide) (fun c84 => ?_) (fun c84 => ?_)
          ·
            refine lv_iconst (v := 0) hx hb dX10_readFact_102 (by decide) ?_
            exact m_zret S hr hlocks (by decide) hG hL dX10_readFact_103 (by simp only [rdF, wrX, sSg_63, eq_false c7, eq_true c16, ↓reduceIte]; rw [kfX_0 csx]; simp only [plX, eq_true c84, ↓reduceIte]) (by simp only [rdF, wrX, sSg_63, eq_false c7, eq_true c16, ↓reduceIte]; rw [kfX_0 csx]; simp only [plX, eq_true c84, ↓reduceIte]) (by simp only [rdF, wrX, sSg_63, eq_false c7, eq_true c16, ↓reduceIte]; rw [kfX_0 csx]; simp only [plX, eq_true c84, ↓reduceIte])
          ·
            refine lv_aload_n hx hb dX10_readFact_87 rfl (lv_at hl 1 rfl) ?_
            refine lv_iconst (v := 1) hx hb dX10_readFact_88 (by decide) ?_
            refine lv_iconst (v := 0) hx hb dX10_readFact_89 (by decide) ?_
            refine lv_bipush (v := 19) hx hb dX10_readFact_90 (by decide) ?_
            refine m_callV (n := 3) (As := [.int 1, .int 0, .int 19]) (rest := []) (st1 := .int (okN 0 19 (sN 0 19 (s1F s r) (r1F s r)) (rN 0 0 19 (s1F s r) (r1F s r))) :: []) S hG hL (c_X10_number hlv 1 0 19 (sN 0 19 (s1F s r) (r1F s r)) (rN 0 0 19 (s1F s r) (r1F s r)) ((tOn_N (r := r1F s r) 0 19 (tOn_s1F (r := r) hB).2.1).2.1) (vp_in_t (by decide) (by decide))) gX10_readFact_X10_number rfl (by decide +kernel) ⟨Nat.le_of_ble_eq_true rfl, Nat.le_of_ble_eq_true rfl⟩ rfl hl.1 rfl (Nat.le_of_ble_eq_true rfl) dX10_readFact_92 ⟨Nat.zero_le _, Nat.zero_le _⟩ (rfl) (fun H locs hG hL => ?_)
            refine lv_if_eq (tgt := 102) hx hb dX10_readFact_95 (by decide) (fun c95 => ?_) (fun c95 => ?_)
            ·
              refine lv_iconst (v := 0) hx hb dX10_readFact_102 (by decide) ?_
              exact m_zret S hr hlocks (by decide) hG hL dX10_readFact_103 (by simp only [rdF, wrX, sSg_63, eq_false c7, eq_true c16, ↓reduceIte]; rw [kfX_0 csx]; simp only [plX, eq_false c84, eq_true c95, ↓reduceIte]) (by simp only [rdF, wrX, sSg_63, eq_false c7, eq_true c16, ↓reduceIte]; rw [kfX_0 csx]; simp only [plX, eq_false c84, eq_true c95, ↓reduceIte]) (by simp only [rdF, wrX, sSg_63, eq_false c7, eq_true c16, ↓reduceIte]; rw [kfX_0 csx]; simp only [plX, eq_false c84, eq_true c95, ↓reduceIte])
            ·
              refine lv_iconst (v := 1) hx hb dX10_readFact_98 (by decide) ?_
              refine lv_goto (tgt := 103) hx hb dX10_readFact_99 (by decide) ?_
              exact m_zret S hr hlocks (by decide) hG hL dX10_readFact_103 (by simp only [rdF, wrX, sSg_63, eq_false c7, eq_true c16, ↓reduceIte]; rw [kfX_0 csx]; simp only [plX, eq_false c84, eq_false c95, ↓reduceIte]) (by simp only [rdF, wrX, sSg_63, eq_false c7, eq_true c16, ↓reduceIte]; rw [kfX_0 csx]; simp only [plX, eq_false c84, eq_false c95, ↓reduceIte]) (by simp only [rdF, wrX, sSg_63, eq_false c7, eq_true c16, ↓reduceIte]; rw [kfX_0 csx]; simp only [plX, eq_false c84, eq_false c95, ↓reduceIte])
        ·
          refine lv_tableIn (tgt := 104) (off := 60) hx hb dX10_readFact_44 (by rw [csx]; decide) (by rw [csx]; decide) (by rw [csx]; rfl) (by decide) ?_
          refine lv_aload_n hx hb dX10_readFact_104 rfl (lv_at hl 1 rfl) ?_
          refine lv_iconst (v := 2) hx hb dX10_readFact_105 (by decide) ?_
          refine lv_iconst (v := 1) hx hb dX10_readFact_106 (by decide) ?_
          refine lv_bipush (v := 9) hx hb dX10_readFact_107 (by decide) ?_
          refine m_callV (n := 3) (As := [.int 2, .int 1, .int 9]) (rest := []) (st1 := .int (okN 1 9 (s1F s r) (r1F s r)) :: []) S hG hL (c_X10_number hlv 2 1 9 (s1F s r) (r1F s r) ((tOn_s1F (r := r) hB).2.1) (vp_in_t (by decide) (by decide))) gX10_readFact_X10_number rfl (by decide +kernel) ⟨Nat.le_of_ble_eq_true rfl, Nat.le_of_ble_eq_true rfl⟩ rfl hl.1 rfl (Nat.le_of_ble_eq_true rfl) dX10_readFact_109 ⟨Nat.zero_le _, Nat.zero_le _⟩ (rfl) (fun H locs hG hL => ?_)
          exact m_zret S hr hlocks (okN_b ..) hG hL dX10_readFact_112 (by simp only [rdF, wrX, sSg_63, eq_false c7, eq_true c16, ↓reduceIte]; rw [kfX_1 csx]; simp only [nmX, ↓reduceIte]) (by simp only [rdF, wrX, sSg_63, eq_false c7, eq_true c16, ↓reduceIte]; rw [kfX_1 csx]; simp only [nmX, ↓reduceIte]) (by simp only [rdF, wrX, sSg_63, eq_false c7, eq_true c16, ↓reduceIte]; rw [kfX_1 csx]; simp only [nmX, ↓reduceIte])
        ·
          refine lv_tableIn (tgt := 113) (off := 69) hx hb dX10_readFact_44 (by rw [csx]; decide) (by rw [csx]; decide) (by rw [csx]; rfl) (by decide) ?_
          refine lv_aload_n hx hb dX10_readFact_113 rfl (lv_at hl 1 rfl) ?_
          refine lv_iconst (v := 3) hx hb dX10_readFact_114 (by decide) ?_
          refine lv_iconst (v := 0) hx hb dX10_readFact_115 (by decide) ?_
          refine lv_aload_n hx hb dX10_readFact_116 rfl (lv_at hl 1 rfl) ?_
          refine m_gi (v := (s1F s r) 1) S hG 1 rfl (hts (.fieldLink RX10 206 "SwarmLineModel" "now" "I") (by decide +kernel)) dX10_readFact_117 rfl ?_
          refine m_callV (n := 3) (As := [.int 3, .int 0, .int ((s1F s r) 1)]) (rest := []) (st1 := .int (okN 0 ((s1F s r) 1) (s1F s r) (r1F s r)) :: []) S hG hL (c_X10_number hlv 3 0 ((s1F s r) 1) (s1F s r) (r1F s r) ((tOn_s1F (r := r) hB).2.1) (vp_in_t (by decide) (by decide))) gX10_readFact_X10_number rfl (by decide +kernel) ⟨Nat.le_of_ble_eq_true rfl, Nat.le_of_ble_eq_true rfl⟩ rfl hl.1 rfl (Nat.le_of_ble_eq_true rfl) dX10_readFact_120 ⟨Nat.zero_le _, Nat.zero_le _⟩ (rfl) (fun H locs hG hL => ?_)
          exact m_zret S hr hlocks (okN_b ..) hG hL dX10_readFact_123 (by simp only [rdF, wrX, sSg_63, eq_false c7, eq_true c16, ↓reduceIte]; rw [kfX_2 csx]; simp only [nmX, ↓reduceIte]) (by simp only [rdF, wrX, sSg_63, eq_false c7, eq_true c16, ↓reduceIte]; rw [kfX_2 csx]; simp only [nmX, ↓reduceIte]) (by simp only [rdF, wrX, sSg_63, eq_false c7, eq_true c16, ↓reduceIte]; rw [kfX_2 csx]; simp only [nmX, ↓reduceIte])
        ·
          refine lv_tableIn (tgt := 124) (off := 80) hx hb dX10_readFact_44 (by rw [csx]; decide) (by rw [csx]; decide) (by rw [csx]; rfl) (by decide) ?_
          refine lv_aload_n hx hb dX10_readFact_124 rfl (lv_at hl 1 rfl) ?_
          refine lv_iconst (v := 4) hx hb dX10_readFact_125 (by decide) ?_
          refine lv_iconst (v := 1) hx hb dX10_readFact_126 (by decide) ?_
          refine lv_bipush (v := 7) hx hb dX10_readFact_127 (by decide) ?_
          refine m_callV (n := 3) (As := [.int 4, .int 1, .int 7]) (rest := []) (st1 := .int (okN 1 7 (s1F s r) (r1F s r)) :: []) S hG hL (c_X10_number hlv 4 1 7 (s1F s r) (r1F s r) ((tOn_s1F (r := r) hB).2.1) (vp_in_t (by decide) (by decide))) gX10_readFact_X10_number rfl (by decide +kernel) ⟨Nat.le_of_ble_eq_true rfl, Nat.le_of_ble_eq_true rfl⟩ rfl hl.1 rfl (Nat.le_of_ble_eq_true rfl) dX10_readFact_129 ⟨Nat.zero_le _, Nat.zero_le _⟩ (rfl) (fun H locs hG hL => ?_)
          exact m_zret S hr hlocks (okN_b ..) hG hL dX10_readFact_132 (by simp only [rdF, wrX, sSg_63, eq_false c7, eq_true c16, ↓reduceIte]; rw [kfX_3 csx]; simp only [nmX, ↓reduceIte]) (by simp only [rdF, wrX, sSg_63, eq_false c7, eq_true c16, ↓reduceIte]; rw [kfX_3 csx]; simp only [nmX, ↓reduceIte]) (by simp only [rdF, wrX, sSg_63, eq_false c7, eq_true c16, ↓reduceIte]; rw [kfX_3 csx]; simp only [nmX, ↓reduceIte])
    ·
      refine lv_aload_n hx hb dX10_readFact_19 rfl (lv_at hl 1 rfl) ?_
      refine lv_aload_n hx hb dX10_readFact_20 rfl (lv_at hl 1 rfl) ?_
      refine m_gi (v := (sSg s r) 63) S hG 63 rfl (hts (.fieldLink RX10 238 "SwarmLineModel" "at" "I") (by decide +kernel)) dX10_readFact_21 rfl ?_
      refine m_callV (n := 1) (As := [.int ((sSg s r) 63)]) (rest := []) (st1 := .int 0 :: []) S hG hL (c_X10_wrong hlv ((sSg s r) 63) (sSg s r) r ) gX10_readFact_X10_wrong rfl (by decide +kernel) ⟨Nat.le_of_ble_eq_true rfl, Nat.le_of_ble_eq_true rfl⟩ rfl hl.1 rfl (Nat.le_of_ble_eq_true rfl) dX10_readFact_24 ⟨Nat.zero_le _, Nat.zero_le _⟩ (rfl) (fun H locs hG hL => ?_)
      exact m_zret S hr hlocks (by decide) hG hL dX10_readFact_27 (by simp only [rdF, wrX, sSg_63, eq_false c7, eq_false c16, ↓reduceIte]) (by simp only [rdF, wrX, sSg_63, eq_false c7, eq_false c16, ↓reduceIte]) (by simp only [rdF, wrX, sSg_63, eq_false c7, eq_false c16, ↓reduceIte])
set_option maxHeartbeats 4000000 in
set_option maxRecDepth 100000 in
theorem c_X10_readCall {l : Launch} {D : va_G} {cI cZ cB cO cR cJ : ClassId} {Hb : Heap} {lv : Nat → Prop} {ad : Nat → Nat} {ce0 : Nat → va_E} (hlv : lM lv)  (s : Nat → Int32) (r : Nat → Nat → Int32) (hB : tB s) : mMet l D cI cZ cB cO cR cJ Hb lv ad ce0 yX10_readCall wsX10_readCall 5 109 [.ref (ad 0)] s r (some (.int ((rdX s r).1))) ((rdX s r).2.1) ((rdX s r).2.2) := by
  refine Met.ofW (cc := cX10_readCall) (maxL := 2) (ret := (some .boolean)) (by decide) rfl ?_
  intro p0 e0 s0 m0 args below meth c0 s₁ B hml hv
  obtain ⟨rfl, hG, hK⟩ := hv
  have hx := B.exec
  have hb := B.bytes
  have hr := B.returns
  have hts := atoms_spec (ws := wsX10_readCall) B.pre
  have hown : s0.vm.findClass RX10 = some m0.cls := findClass_of_methodNamed B.named
  have hlocks := B.notSynchronized
  have S : mX p0 m0 c0 cX10_readCall 2 s0 _ wsX10_readCall D cI cZ cB cO cR cJ lv := ⟨⟨hx, hb, hml, hown, hts⟩, hK, fun w h => List.mem_cons_of_mem _ (List.mem_append_right _ h), hlv⟩
  have hL : gL Hb [] := gL.nil
  have hl := lv_entry ([.ref (ad 0)]) (n := 2) (Nat.le_of_ble_eq_true rfl)
  rw [lg_entry_eq]
  generalize (lg_sl ([.ref (ad 0)]) ++ List.replicate (2 - (lg_sl ([.ref (ad 0)])).length) Slot.unset).toArray = ls at hl ⊢
  have hl : lv_has ls 2 [(0, .ref (ad 0))] := hl
  refine lv_iconst (v := 0) hx hb dX10_readCall_0 (by decide) ?_
  refine lv_istore_n (lv' := [(1, .int 0), (0, .ref (ad 0))]) hx hb dX10_readCall_1 rfl hl (by decide) rfl (fun ls hl => ?_)
  refine lv_iload_n hx hb dX10_readCall_2 rfl (lv_at hl 0 rfl) ?_
  refine lv_iconst (v := 5) hx hb dX10_readCall_3 (by decide) ?_
  refine lv_icmp_ge (tgt := 20) hx hb dX10_readCall_4 (by decide) (fun c => absurd c (by decide)) (fun _ => ?_)
  refine lv_aload_n hx hb dX10_readCall_7 rfl (lv_at hl 1 rfl) ?_
  refine m_ga S hG 66 rfl (hts (.fieldLink RX10 171 "SwarmLineModel" "has" "[Z") (by decide +kernel)) dX10_readCall_8 ?_
  refine lv_iload_n hx hb dX10_readCall_11 rfl (lv_at hl 0 rfl) ?_
  refine lv_iconst (v := 0) hx hb dX10_readCall_12 (by decide) ?_
  refine m_zst S hG hL 66 rfl (by decide) (show vp_in 0 5 from vp_in_t (by decide) (by decide)) dX10_readCall_13 (fun H locs hG hL => ?_)
  refine lv_iinc (v := 1) (lv' := [(1, .int 1), (0, .ref (ad 0))]) hx hb dX10_readCall_14 hl (k := 0) rfl (by rfl) (by decide) rfl (fun ls hl => ?_)
  refine lv_goto (tgt := 2) hx hb dX10_readCall_17 (by decide) ?_
  refine lv_iload_n hx hb dX10_readCall_2 rfl (lv_at hl 0 rfl) ?_
  refine lv_iconst (v := 5) hx hb dX10_readCall_3 (by decide) ?_
  refine lv_icmp_ge (tgt := 20) hx hb dX10_readCall_4 (by decide) (fun c => absurd c (by decide)) (fun _ => ?_)
  refine lv_aload_n hx hb dX10_readCall_7 rfl (lv_at hl 1 rfl) ?_
  refine m_ga S hG 66 rfl (hts (.fieldLink RX10 171 "SwarmLineModel" "has" "[Z") (by decide +kernel)) dX10_readCall_8 ?_
  refine lv_iload_n hx hb dX10_readCall_11 rfl (lv_at hl 0 rfl) ?_
  refine lv_iconst (v := 0) hx hb dX10_readCall_12 (by decide) ?_
  refine m_zst S hG hL 66 rfl (by decide) (show vp_in 1 5 from vp_in_t (by decide) (by decide)) dX10_readCall_13 (fun H locs hG hL => ?_)
  refine lv_iinc (v := 2) (lv' := [(1, .int 2), (0, .ref (ad 0))]) hx hb dX10_readCall_14 hl (k := 0) rfl (by rfl) (by decide) rfl (fun ls hl => ?_)
  refine lv_goto (tgt := 2) hx hb dX10_readCall_17 (by decide) ?_
  refine lv_iload_n hx hb dX10_readCall_2 rfl (lv_at hl 0 rfl) ?_
  refine lv_iconst (v := 5) hx hb dX10_readCall_3 (by decide) ?_
  refine lv_icmp_ge (tgt := 20) hx hb dX10_readCall_4 (by decide) (fun c => absurd c (by decide)) (fun _ => ?_)
  refine lv_aload_n hx hb dX10_readCall_7 rfl (lv_at hl 1 rfl) ?_
  refine m_ga S hG 66 rfl (hts (.fieldLink RX10 171 "SwarmLineModel" "has" "[Z") (by decide +kernel)) dX10_readCall_8 ?_
  refine lv_iload_n hx hb dX10_readCall_11 rfl (lv_at hl 0 rfl) ?_
  refine lv_iconst (v := 0) hx hb dX10_readCall_12 (by decide) ?_
  refine m_zst S hG hL 66 rfl (by decide) (show vp_in 2 5 from vp_in_t (by decide) (by decide)) dX10_readCall_13 (fun H locs hG hL => ?_)
  refine lv_iinc (v := 3) (lv' := [(1, .int 3), (0, .ref (ad 0))]) hx hb dX10_readCall_14 hl (k := 0) rfl (by rfl) (by decide) rfl (fun ls hl => ?_)
  refine lv_goto (tgt := 2) hx hb dX10_readCall_17 (by decide) ?_
  refine lv_iload_n hx hb dX10_readCall_2 rfl (lv_at hl 0 rfl) ?_
  refine lv_iconst (v := 5) hx hb dX10_readCall_3 (by decide) ?_
  refine lv_icmp_ge (tgt := 20) hx hb dX10_readCall_4 (by decide) (fun c => absurd c (by decide)) (fun _ => ?_)
  refine lv_aload_n hx hb dX10_readCall_7 rfl (lv_at hl 1 rfl) ?_
  refine m_ga S hG 66 rfl (hts (.fieldLink RX10 171 "SwarmLineModel" "has" "[Z") (by decide +kernel)) dX10_readCall_8 ?_
  refine lv_iload_n hx hb dX10_readCall_11 rfl (lv_at hl 0 rfl) ?_
  refine lv_iconst (v := 0) hx hb dX10_readCall_12 (by decide) ?_
  refine m_zst S hG hL 66 rfl (by decide) (show vp_in 3 5 from vp_in_t (by decide) (by decide)) dX10_readCall_13 (fun H locs hG hL => ?_)
  refine lv_iinc (v := 4) (lv' := [(1, .int 4), (0, .ref (ad 0))]) hx hb dX10_readCall_14 hl (k := 0) rfl (by rfl) (by decide) rfl (fun ls hl => ?_)
  refine lv_goto (tgt := 2) hx hb dX10_readCall_17 (by decide) ?_
  refine lv_iload_n hx hb dX10_readCall_2 rfl (lv_at hl 0 rfl) ?_
  refine lv_iconst (v := 5) hx hb dX10_readCall_3 (by decide) ?_
  refine lv_icmp_ge (tgt := 20) hx hb dX10_readCall_4 (by decide) (fun c => absurd c (by decide)) (fun _ => ?_)
  refine lv_aload_n hx hb dX10_readCall_7 rfl (lv_at hl 1 rfl) ?_
  refine m_ga S hG 66 rfl (hts (.fieldLink RX10 171 "SwarmLineModel" "has" "[Z") (by decide +kernel)) dX10_readCall_8 ?_
  refine lv_iload_n hx hb dX10_readCall_11 rfl (lv_at hl 0 rfl) ?_
  refine lv_iconst (v := 0) hx hb dX10_readCall_12 (by decide) ?_
  refine m_zst S hG hL 66 rfl (by decide) (show vp_in 4 5 from vp_in_t (by decide) (by decide)) dX10_readCall_13 (fun H locs hG hL => ?_)
  refine lv_iinc (v := 5) (lv' := [(1, .int 5), (0, .ref (ad 0))]) hx hb dX10_readCall_14 hl (k := 0) rfl (by rfl) (by decide) rfl (fun ls hl => ?_)
  refine lv_goto (tgt := 2) hx hb dX10_readCall_17 (by decide) ?_
  refine lv_iload_n hx hb dX10_readCall_2 rfl (lv_at hl 0 rfl) ?_
  refine lv_iconst (v := 5) hx hb dX10_readCall_3 (by decide) ?_
  refine lv_icmp_ge (tgt := 20) hx hb dX10_readCall_4 (by decide) (fun _ => ?_) (fun c => absurd c (by decide))
  refine lv_aload_n hx hb dX10_readCall_20 rfl (lv_at hl 1 rfl) ?_
  refine m_ga S hG 65 rfl (hts (.fieldLink RX10 168 "SwarmLineModel" "fact" "[I") (by decide +kernel)) dX10_readCall_21 ?_
  refine lv_iconst (v := 2) hx hb dX10_readCall_24 (by decide) ?_
  refine lv_iconst (v := 0) hx hb dX10_readCall_25 (by decide) ?_
  refine m_st S hG hL 65 rfl (show vp_in 2 6 from vp_in_t (by decide) (by decide)) dX10_readCall_26 (fun H locs hG hL => ?_)
  refine lv_aload_n hx hb dX10_readCall_27 rfl (lv_at hl 1 rfl) ?_
  refine m_ga S hG 65 rfl (hts (.fieldLink RX10 168 "SwarmLineModel" "fact" "[I") (by decide +kernel)) dX10_readCall_28 ?_
  refine lv_iconst (v := 3) hx hb dX10_readCall_31 (by decide) ?_
  refine lv_iconst (v := (-1)) hx hb dX10_readCall_32 (by decide) ?_
  refine m_st S hG hL 65 rfl (show vp_in 3 6 from vp_in_t (by decide) (by decide)) dX10_readCall_33 (fun H locs hG hL => ?_)
  refine lv_aload_n hx hb dX10_readCall_34 rfl (lv_at hl 1 rfl) ?_
  refine m_ga S hG 65 rfl (hts (.fieldLink RX10 168 "SwarmLineModel" "fact" "[I") (by decide +kernel)) dX10_readCall_35 ?_
  refine lv_iconst (v := 4) hx hb dX10_readCall_38 (by decide) ?_
  refine lv_iconst (v := 0) hx hb dX10_readCall_39 (by decide) ?_
  refine m_st S hG hL 65 rfl (show vp_in 4 6 from vp_in_t (by decide) (by decide)) dX10_readCall_40 (fun H locs hG hL => ?_)
  refine lv_iconst (v := 1) hx hb dX10_readCall_41 (by decide) ?_
  refine lv_istore_n (lv' := [(1, .int 1), (0, .ref (ad 0))]) hx hb dX10_readCall_42 rfl hl (by decide) rfl (fun ls hl => ?_)
  refine lv_iload_n hx hb dX10_readCall_43 rfl (lv_at hl 0 rfl) ?_
  refine lv_if_eq (tgt := 88) hx hb dX10_readCall_44 (by decide) (fun c => absurd c (by decide)) (fun _ => ?_)
  have LP : ∀ (n : Nat) (sv : Nat → Int32) (rv : Nat → Nat → Int32) (hB1 : tB sv) (hO : tOn s sv) (hn : tE s + 1 ≤ (sv 63).toNatClampNeg + n) (hF : rdC n sv rv = rdX s r), ∀ (H : Heap) (locs : List Loc), gW D Hb lv ad (mJ ce0 ad cI cZ sv rv) H → gL Hb locs → ∀ (ls : Array Slot), lv_has ls 2 [(0, .ref (ad 0))] → W p0 l e0 (headSpec wsX10_readCall { frames := 5, cells := 0, slots := 0, locals := 109 }).room s0 m0 ([.ref (ad 0)] : List Value).toArray below meth c0 H locs 0 0 (MQ below (gQ D Hb lv ad (some (.int ((rdX s r).1))) (mJ ce0 ad cI cZ ((rdX s r).2.1) ((rdX s r).2.2))) ([.ref (ad 0)] : List Value).toArray s0 0 0 (gA Hb)) (F0 m0 47 ls []) := by
    intro n
    induction n with
    | zero => intro sv rv hB1 hO hn hF; exact absurd hn (by have := tB_e hB1; have := tOn_E hO; omega)
    | succ n ih =>
      intro sv rv hB1 hO hn hF H locs hG hL ls hl
      refine lv_aload_n hx hb dX10_readCall_47 rfl (lv_at hl 0 rfl) ?_
      refine m_callV (n := 0) (As := []) (rest := []) (st1 := .int ((rdF sv rv).1) :: []) S hG hL (c_X10_readFact hlv  sv rv (hB1)) gX10_readCall_X10_readFact rfl (by decide +kernel) ⟨Nat.le_of_ble_eq_true rfl, Nat.le_of_ble_eq_true rfl⟩ rfl hl.1 rfl (Nat.le_of_ble_eq_true rfl) dX10_readCall_48 ⟨Nat.zero_le _, Nat.zero_le _⟩ (rfl) (fun H locs hG hL => ?_)
      refine lv_if_ne (tgt := 56) hx hb dX10_readCall_51 (by decide) (fun c51 => ?_) (fun c51 => ?_)
      ·
        refine lv_aload_n hx hb dX10_readCall_56 rfl (lv_at hl 0 rfl) ?_
        refine m_callV (n := 0) (As := []) (rest := []) (st1 := .int (vSg ((rdF sv rv).2.1) ((rdF sv rv).2.2)) :: []) S hG hL (c_X10_sign hlv  ((rdF sv rv).2.1) ((rdF sv rv).2.2) ((tOn_F (r := rv) hB1).2.1)) gX10_readCall_X10_sign rfl (by decide +kernel) ⟨Nat.le_of_ble_eq_true rfl, Nat.le_of_ble_eq_true rfl⟩ rfl hl.1 rfl (Nat.le_of_ble_eq_true rfl) dX10_readCall_57 ⟨Nat.zero_le _, Nat.zero_le _⟩ (rfl) (fun H locs hG hL => ?_)
        refine lv_bipush (v := 44) hx hb dX10_readCall_60 (by decide) ?_
        refine lv_icmp_ne (tgt := 69) hx hb dX10_readCall_62 (by decide) (fun c62 => ?_) (fun c62 => ?_)
        ·
          refine lv_iconst (v := 0) hx hb dX10_readCall_69 (by decide) ?_
          refine lv_istore_n (lv' := [(1, .int 0), (0, .ref (ad 0))]) hx hb dX10_readCall_70 rfl hl (by decide) rfl (fun ls hl => ?_)
          refine lv_iload_n hx hb dX10_readCall_71 rfl (lv_at hl 0 rfl) ?_
          refine lv_if_eq (tgt := 43) hx hb dX10_readCall_72 (by decide) (fun _ => ?_) (fun c => absurd c (by decide))
          refine lv_iload_n hx hb dX10_readCall_43 rfl (lv_at hl 0 rfl) ?_
          refine lv_if_eq (tgt := 88) hx hb dX10_readCall_44 (by decide) (fun _ => ?_) (fun c => absurd c (by decide))
          refine lv_aload_n hx hb dX10_readCall_88 rfl (lv_at hl 1 rfl) ?_
          refine m_callV (n := 0) (As := []) (rest := []) (st1 := .int (vSg (sSg ((rdF sv rv).2.1) ((rdF sv rv).2.2)) ((rdF sv rv).2.2)) :: []) S hG hL (c_X10_sign hlv  (sSg ((rdF sv rv).2.1) ((rdF sv rv).2.2)) ((rdF sv rv).2.2) (tB_sg (tOn_F (r := rv) hB1).2.1)) gX10_readCall_X10_sign rfl (by decide +kernel) ⟨Nat.le_of_ble_eq_true rfl, Nat.le_of_ble_eq_true rfl⟩ rfl hl.1 rfl (Nat.le_of_ble_eq_true rfl) dX10_readCall_89 ⟨Nat.zero_le _, Nat.zero_le _⟩ (rfl) (fun H locs hG hL => ?_)
          refine lv_iconst (v := (-1)) hx hb dX10_readCall_92 (by decide) ?_
          refine lv_icmp_eq (tgt := 105) hx hb dX10_readCall_93 (by decide) (fun c93 => ?_) (fun c93 => ?_)
          ·
            refine lv_aload_n hx hb dX10_readCall_105 rfl (lv_at hl 1 rfl) ?_
            refine m_ga S hG 66 rfl (hts (.fieldLink RX10 171 "SwarmLineModel" "has" "[Z") (by decide +kernel)) dX10_readCall_106 ?_
            refine lv_iconst (v := 0) hx hb dX10_readCall_109 (by decide) ?_
            refine m_zld (v := ((rdF sv rv).2.2) 66 (Int32.toNatClampNeg 0)) S hG 66 rfl (show vp_in 0 5 from vp_in_t (by decide) (by decide)) dX10_readCall_110 (rfl) ?_
            refine lv_if_ne (tgt := 125) hx hb dX10_readCall_111 (by decide) (fun c111 => ?_) (fun c111 => ?_)
            ·
              refine lv_iconst (v := 1) hx hb dX10_readCall_125 (by decide) ?_
              refine lv_goto (tgt := 130) hx hb dX10_readCall_126 (by decide) ?_
              exact m_zret S hr hlocks (by decide) hG hL dX10_readCall_130 (by rw [← hF]; simp only [rdC, fiX, wrX, sSg_63, eq_false c51, eq_false c62, eq_true c93, eq_false c111, ↓reduceIte]) (by rw [← hF]; simp only [rdC, fiX, wrX, sSg_63, eq_false c51, eq_false c62, eq_true c93, eq_false c111, ↓reduceIte]) (by rw [← hF]; simp only [rdC, fiX, wrX, sSg_63, eq_false c51, eq_false c62, eq_true c93, eq_false c111, ↓reduceIte])
            ·
              refine lv_aload_n hx hb dX10_readCall_114 rfl (lv_at hl 1 rfl) ?_
              refine lv_aload_n hx hb dX10_readCall_115 rfl (lv_at hl 1 rfl) ?_
              refine m_gi (v := (sSg (sSg ((rdF sv rv).2.1) ((rdF sv rv).2.2)) ((rdF sv rv).2.2)) 62) S hG 62 rfl (hts (.fieldLink RX10 241 "SwarmLineModel" "textEnd" "I") (by decide +kernel)) dX10_readCall_116 rfl ?_
              refine m_callV (n := 1) (As := [.int ((sSg (sSg ((rdF sv rv).2.1) ((rdF sv rv).2.2)) ((rdF sv rv).2.2)) 62)]) (rest := []) (st1 := .int 0 :: []) S hG hL (c_X10_wrong hlv ((sSg (sSg ((rdF sv rv).2.1) ((rdF sv rv).2.2)) ((rdF sv rv).2.2)) 62) (sSg (sSg ((rdF sv rv).2.1) ((rdF sv rv).2.2)) ((rdF sv rv).2.2)) ((rdF sv rv).2.2) ) gX10_readCall_X10_wrong rfl (by decide +kernel) ⟨Nat.le_of_ble_eq_true rfl, Nat.le_of_ble_eq_true rfl⟩ rfl hl.1 rfl (Nat.le_of_ble_eq_true rfl) dX10_readCall_119 ⟨Nat.zero_le _, Nat.zero_le _⟩ (rfl) (fun H locs hG hL => ?_)
              refine lv_if_eq (tgt := 129) hx hb dX10_readCall_122 (by decide) (fun _ => ?_) (fun c => absurd c (by decide))
              refine lv_iconst (v := 0) hx hb dX10_readCall_129 (by decide) ?_
              exact m_zret S hr hlocks (by decide) hG hL dX10_readCall_130 (by rw [← hF]; simp only [rdC, fiX, wrX, sSg_63, eq_false c51, eq_false c62, eq_true c93, eq_true c111, ↓reduceIte]) (by rw [← hF]; simp only [rdC, fiX, wrX, sSg_63, eq_false c51, eq_false c62, eq_true c93, eq_true c111, ↓reduceIte]) (by rw [← hF]; simp only [rdC, fiX, wrX, sSg_63, eq_false c51, eq_false c62, eq_true c93, eq_true c111, ↓reduceIte])
          ·
            refine lv_aload_n hx hb dX10_readCall_96 rfl (lv_at hl 1 rfl) ?_
            refine lv_aload_n hx hb dX10_readCall_97 rfl (lv_at hl 1 rfl) ?_
            refine m_gi (v := (sSg (sSg ((rdF sv rv).2.1) ((rdF sv rv).2.2)) ((rdF sv rv).2.2)) 63) S hG 63 rfl (hts (.fieldLink RX10 238 "SwarmLineModel" "at" "I") (by decide +kernel)) dX10_readCall_98 rfl ?_
            refine m_callV (n := 1) (As := [.int ((sSg (sSg ((rdF sv rv).2.1) ((rdF sv rv).2.2)) ((rdF sv rv).2.2)) 63)]) (rest := []) (st1 := .int 0 :: []) S hG hL (c_X10_wrong hlv ((sSg (sSg ((rdF sv rv).2.1) ((rdF sv rv).2.2)) ((rdF sv rv).2.2)) 63) (sSg (sSg ((rdF sv rv).2.1) ((rdF sv rv).2.2)) ((rdF sv rv).2.2)) ((rdF sv rv).2.2) ) gX10_readCall_X10_wrong rfl (by decide +kernel) ⟨Nat.le_of_ble_eq_true rfl, Nat.le_of_ble_eq_true rfl⟩ rfl hl.1 rfl (Nat.le_of_ble_eq_true rfl) dX10_readCall_101 ⟨Nat.zero_le _, Nat.zero_le _⟩ (rfl) (fun H locs hG hL => ?_)
            exact m_zret S hr hlocks (by decide) hG hL dX10_readCall_104 (by rw [← hF]; simp only [rdC, fiX, wrX, sSg_63, eq_false c51, eq_false c62, eq_false c93, ↓reduceIte]) (by rw [← hF]; simp only [rdC, fiX, wrX, sSg_63, eq_false c51, eq_false c62, eq_false c93, ↓reduceIte]) (by rw [← hF]; simp only [rdC, fiX, wrX, sSg_63, eq_false c51, eq_false c62, eq_false c93, ↓reduceIte])
        ·
          refine lv_iconst (v := 1) hx hb dX10_readCall_65 (by decide) ?_
          refine lv_goto (tgt := 70) hx hb dX10_readCall_66 (by decide) ?_
          refine lv_istore_n (lv' := [(1, .int 1), (0, .ref (ad 0))]) hx hb dX10_readCall_70 rfl hl (by decide) rfl (fun ls hl => ?_)
          refine lv_iload_n hx hb dX10_readCall_71 rfl (lv_at hl 0 rfl) ?_
          refine lv_if_eq (tgt := 43) hx hb dX10_readCall_72 (by decide) (fun c => absurd c (by decide)) (fun _ => ?_)
          refine lv_aload_n hx hb dX10_readCall_75 rfl (lv_at hl 1 rfl) ?_
          refine lv_dup hx hb dX10_readCall_76 rfl ?_
          refine m_gi (v := (sSg ((rdF sv rv).2.1) ((rdF sv rv).2.2)) 63) S hG 63 rfl (hts (.fieldLink RX10 238 "SwarmLineModel" "at" "I") (by decide +kernel)) dX10_readCall_77 rfl ?_
          refine lv_iconst (v := 1) hx hb dX10_readCall_80 (by decide) ?_
          refine lv_iadd hx hb dX10_readCall_81 ?_
          refine m_pi S hG hL 63 rfl (hts (.fieldLink RX10 238 "SwarmLineModel" "at" "I") (by decide +kernel)) dX10_readCall_82 (fun H locs hG hL => ?_)
          refine lv_goto (tgt := 43) hx hb dX10_readCall_85 (by decide) ?_
          refine lv_iload_n hx hb dX10_readCall_43 rfl (lv_at hl 0 rfl) ?_
          refine lv_if_eq (tgt := 88) hx hb dX10_readCall_44 (by decide) (fun c => absurd c (by decide)) (fun _ => ?_)
          exact ih  (upd (sSg ((rdF sv rv).2.1) ((rdF sv rv).2.2)) 63 (((sSg ((rdF sv rv).2.1) ((rdF sv rv).2.2)) 63) + 1)) ((rdF sv rv).2.2) (by have q := tOn_comma (r := (rdF sv rv).2.2) (tOn_F (r := rv) hB1).2.1 c62 (by decide); exact q.1.2.1) (by have q := tOn_comma (r := (rdF sv rv).2.2) (tOn_F (r := rv) hB1).2.1 c62 (by decide); exact (hO.trans (tOn_F (r := rv) hB1)).trans q.1) (by have q := tOn_comma (r := (rdF sv rv).2.2) (tOn_F (r := rv) hB1).2.1 c62 (by decide); have q1 := (tOn_F (r := rv) hB1).2.2.1; omega) (by rw [← hF]; simp only [rdC, eq_false c51, eq_true c62, ↓reduceIte]) _ _ hG hL _ (lv_sub hl [1] rfl)
      ·
        refine lv_iconst (v := 0) hx hb dX10_readCall_54 (by decide) ?_
        exact m_zret S hr hlocks (by decide) hG hL dX10_readCall_55 (by rw [← hF]; simp only [rdC, fiX, wrX, sSg_63, eq_true c51, ↓reduceIte]) (by rw [← hF]; simp only [rdC, fiX, wrX, sSg_63, eq_true c51, ↓reduceIte]) (by rw [← hF]; simp only [rdC, fiX, wrX, sSg_63, eq_true c51, ↓reduceIte])
  exact LP (1 + tE s) s (up2 (up2 (up2 (up2 (up2 (up2 (up2 (up2 r 66 (Int32.toNatClampNeg 0) 0) 66 (Int32.toNatClampNeg 1) 0) 66 (Int32.toNatClampNeg 2) 0) 66 (Int32.toNatClampNeg 3) 0) 66 (Int32.toNatClampNeg 4) 0) 65 (Int32.toNatClampNeg 2) 0) 65 (Int32.toNatClampNeg 3) (-1)) 65 (Int32.toNatClampNeg 4) 0) (hB) (tOn.refl hB) (by omega) (rfl) _ _ hG hL _ (lv_sub hl [1] rfl)
