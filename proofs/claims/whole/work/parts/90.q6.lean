/-! noon -/
theorem sw_ch (r : Nat → Nat → Int32) (i : Nat) (v15 v16 v17 v18 v19 v20 v21 v22 v23 v24 v25 : Int32) : up2 (up2 (up2 (up2 (up2 (up2 (up2 (up2 (up2 (up2 (up2 (zsw r i) 22 i (v22)) 15 i (v15)) 23 i (v23)) 25 i (v25)) 24 i (v24)) 16 i (v16)) 17 i (v17)) 18 i (v18)) 19 i (v19)) 20 i (v20)) 21 i (v21) = up2 (up2 (up2 (up2 (up2 (up2 (up2 (up2 (up2 (up2 (up2 (r) 15 i (v15)) 16 i (v16)) 17 i (v17)) 18 i (v18)) 19 i (v19)) 20 i (v20)) 21 i (v21)) 22 i (v22)) 23 i (v23)) 24 i (v24)) 25 i (v25) := by
  funext f j
  simp only [zsw, up2_e]
  by_cases hj : j = i
  · subst hj
    by_cases h15 : f = 15
    · subst h15; simp
    by_cases h16 : f = 16
    · subst h16; simp
    by_cases h17 : f = 17
    · subst h17; simp
    by_cases h18 : f = 18
    · subst h18; simp
    by_cases h19 : f = 19
    · subst h19; simp
    by_cases h20 : f = 20
    · subst h20; simp
    by_cases h21 : f = 21
    · subst h21; simp
    by_cases h22 : f = 22
    · subst h22; simp
    by_cases h23 : f = 23
    · subst h23; simp
    by_cases h24 : f = 24
    · subst h24; simp
    by_cases h25 : f = 25
    · subst h25; simp
    simp [h15, h16, h17, h18, h19, h20, h21, h22, h23, h24, h25]
  · simp [hj]
theorem kd_he (a b : Int32) : kDr a b = fHe (a + (b - b / 7 * 7) - 3) := by
  unfold kDr fHe
  generalize a + (b - b / 7 * 7) - 3 = v
  have z0 : (0 : Int32).toInt = 0 := by decide
  have z19 : (19 : Int32).toInt = 19 := by decide
  by_cases c0 : 0 ≤ v
  · rw [if_pos c0]
    rw [Int32.le_iff_toInt_le] at c0
    by_cases c1 : v ≤ 19
    · rw [if_pos c1]
      rw [Int32.le_iff_toInt_le] at c1
      by_cases c2 : v < 19
      · rw [if_pos c2]
        by_cases c3 : 0 < v
        · rw [if_pos c3]
        · rw [if_neg c3]
          rw [Int32.lt_iff_toInt_lt] at c3
          exact Int32.toInt_inj.mp (by omega)
      · rw [if_neg c2, if_pos (by decide)]
        rw [Int32.lt_iff_toInt_lt] at c2
        exact Int32.toInt_inj.mp (by omega)
    · rw [if_neg c1]
      rw [Int32.le_iff_toInt_le] at c1
      rw [if_neg (fun q : v < 19 => by rw [Int32.lt_iff_toInt_lt] at q; omega), if_pos (by decide)]
  · rw [if_neg c0]
    rw [Int32.le_iff_toInt_le] at c0
    rw [if_pos (show v < 19 by rw [Int32.lt_iff_toInt_lt]; omega), if_neg (fun q => by rw [Int32.lt_iff_toInt_lt] at q; omega)]
theorem he_19 (v : Int32) : j19 (fHe v) := by
  unfold fHe j19
  have z0 : (0 : Int32).toInt = 0 := by decide
  have z19 : (19 : Int32).toInt = 19 := by decide
  by_cases c0 : 0 ≤ v
  · rw [if_pos c0]
    rw [Int32.le_iff_toInt_le] at c0
    by_cases c1 : v ≤ 19
    · rw [if_pos c1]
      rw [Int32.le_iff_toInt_le] at c1
      omega
    · rw [if_neg c1]; omega
  · rw [if_neg c0]; omega
theorem pn_g {i : Nat} (hi : i < 60) (s : Nat → Int32) (r : Nat → Nat → Int32) : pnG i s r = nn1 (nI i) (s 1 / 24) r := by
  unfold pnG gwR gwB nn1 nnB nnW nnM
  rw [ix_nI (by omega)]
theorem pn_9 {i : Nat} (hi : i < 60) (d : Int32) (r : Nat → Nat → Int32) : nn1 (nI i) d r 9 i = nnB (nI i) d r := by
  unfold nn1
  rw [ix_nI (by omega), up2_n _ _ _ _ (by decide), up2_ss]
theorem pn_12 {i : Nat} (hi : i < 60) (d : Int32) (r : Nat → Nat → Int32) : nn1 (nI i) d r 12 i = nnW (nI i) d r := by
  unfold nn1
  rw [ix_nI (by omega), up2_ss]
theorem pn_o (h d : Int32) (r : Nat → Nat → Int32) {f : Nat} (h1 : ¬ f = 9) (h2 : ¬ f = 12) : nn1 h d r f = r f := by
  unfold nn1
  rw [up2_nn _ _ _ h2, up2_nn _ _ _ h1]
theorem zsw_o (r : Nat → Nat → Int32) (w : Nat) {f : Nat} (h : f < 15) : zsw r w f = r f := by
  unfold zsw
  repeat rw [up2_nn _ _ _ (by omega)]
theorem pn_r {i : Nat} (hi : i < 60) (s : Nat → Int32) (r : Nat → Nat → Int32) : pnR (nI i) i s r = nn2 (nI i) (s 1 / 24) (nnB (nI i) (s 1 / 24) r) s r (nn1 (nI i) (s 1 / 24) r) := by
  have e9 : ∀ G : Nat → Nat → Int32, pnG i s r = G → pnI (nI i) i s r 9 i = G 9 i := by
    intro G hG
    unfold pnI
    rw [hG]
    repeat rw [up2_n _ _ _ _ (by decide)]
    rw [zsw_o _ _ (by decide)]
  unfold pnR
  rw [e9 _ (pn_g hi s r), pn_9 hi]
  unfold pnI nn2
  rw [pn_g hi s r, zsw_o _ _ (by decide), zsw_o _ _ (by decide), zsw_o _ _ (by decide), pn_9 hi, pn_o _ _ _ (f := 7) (by decide) (by decide), pn_o _ _ _ (f := 8) (by decide) (by decide), kd_he, kd_he, sw_ch, ix_nI (by omega)]
section JU
variable {sC sM : Nat → Int32} {rC rM : Nat → Nat → Int32}
theorem nnB_q (h : qR sC rC sM rM) (i d : Int32) : nnB i d rC = nnB i d rM := by
  unfold nnB nnM
  rw [h.r 9, h.r 3]
theorem nnW_q (h : qR sC rC sM rM) (i d : Int32) : nnW i d rC = nnW i d rM := by
  unfold nnW
  rw [h.r 2, h.r 12]
theorem j_nn1 (h : jI sC rC sM rM) (i d : Int32) : jI sC (nn1 i d rC) sM (nn1 i d rM) := by
  unfold nn1
  rw [nnB_q h.q, nnW_q h.q]
  exact jI_up (jI_up h 9 _ _ rfl trivial) 12 _ _ rfl trivial
theorem jI_14 (h : jI sC rC sM rM) (x : Int32) (hx : 0 ≤ x.toInt ∧ x.toInt ≤ 60) : jI (upd sC 14 x) rC (upd sM 14 x) rM := by
  obtain ⟨a, b, c, d, e⟩ := h
  exact ⟨qR_s a 14 x, ⟨b.1, b.2.1, hx, b.2.2.2⟩, c, d, e⟩
theorem j_nn2 {r0C r0M : Nat → Nat → Int32} (h : jI sC rC sM rM) (h0 : qR sC r0C sM r0M) (i d b : Int32) : jI sC (nn2 i d b sC r0C rC) sM (nn2 i d b sM r0M rM) := by
  unfold nn2
  rw [h0.r 7, h0.r 8, h.q.s 14, h.q.s 1]
  generalize Int32.toNatClampNeg (sM 14) = w
  have h1 := jI_15 h w 0 (Or.inl rfl)
  have h2 := jI_up (jI_up (jI_up (jI_up (jI_up (jI_up (jI_up (jI_up h1 16 w i rfl trivial) 17 w (b / 2) rfl trivial) 18 w (fHe (r0M 7 (Int32.toNatClampNeg i) + (b / 1000 + d - (b / 1000 + d) / 7 * 7) - 3)) rfl (he_19 _)) 19 w (fHe (r0M 8 (Int32.toNatClampNeg i) + (b / 100 + d - (b / 100 + d) / 7 * 7) - 3)) rfl (he_19 _)) 20 w (b / 10 - b / 10 / 9 * 9 + 1) rfl trivial) 21 w (sM 1) rfl trivial) 22 w 60 rfl trivial) 23 w (-1) rfl trivial
  have h3 := jI_24 h2 24 (Or.inl rfl) w (-1) (by simp [up2_e])
  have h4 := jI_24 h3 25 (Or.inr rfl) w (-1) (by simp [up2_e])
  exact jI_up (jI_up (jI_up h4 9 _ _ rfl trivial) 12 _ _ rfl trivial) 13 _ (sM 1) rfl (Or.inr h.N.1)
theorem j_pn (h : jI sC rC sM rM) {i : Nat} (hi : i < 60) : (pnY i sC rC ↔ nnC (nI i) (sM 1 / 24) sM rM = true) := by
  unfold pnY pnV nnC
  rw [pn_g hi, pn_9 hi, pn_12 hi, pn_o _ _ _ (f := 10) (by decide) (by decide), nnB_q h.q, nnW_q h.q, h.q.r 10, h.q.s 14, h.q.s 1, ix_nI (by omega)]
  have b := h.N.2.2.1
  have z60 : (60 : Int32).toInt = 60 := by decide
  by_cases c0 : nnB (nI i) (sM 1 / 24) rM ≤ rM 10 i
  · rw [if_pos c0, if_pos c0]; exact ⟨fun q => absurd rfl q.1, fun q => by cases q⟩
  rw [if_neg c0, if_neg c0]
  by_cases c1 : nnW (nI i) (sM 1 / 24) rM < 3
  · rw [if_pos c1, if_pos c1]; exact ⟨fun q => absurd rfl q.1, fun q => by cases q⟩
  rw [if_neg c1, if_neg c1]
  by_cases c2 : sM 14 = 60
  · rw [if_pos c2]
    refine ⟨fun q => ?_, fun q => by cases q⟩
    have := q.2
    rw [c2] at this
    exact absurd this (by decide)
  · rw [if_neg c2]
    refine ⟨fun _ => rfl, fun _ => ⟨by decide, ?_⟩⟩
    rw [Int32.lt_iff_toInt_lt]
    have : ¬ (sM 14).toInt = 60 := fun q => c2 (Int32.toInt_inj.mp (by rw [q]; decide))
    omega
theorem j_pc (h : jI sC rC sM rM) : ∀ n, n ≤ 60 → jI (pcW sC rC n).1 (pcW sC rC n).2 (hvW (sM 1 / 24) (sM, rM) n).1 (hvW (sM 1 / 24) (sM, rM) n).2 ∧ (hvW (sM 1 / 24) (sM, rM) n).1 1 = sM 1
  | 0, _ => ⟨h, rfl⟩
  | n + 1, hn => by
    obtain ⟨ih, i1⟩ := j_pc h n (by omega)
    have e := j_pn ih (i := n) (by omega)
    unfold hvW nnS nnR
    rw [i1] at e
    have c1 : (pcW sC rC n).1 1 = sM 1 := (ih.q.s 1).trans i1
    by_cases c : pnY n (pcW sC rC n).1 (pcW sC rC n).2
    · rw [pcW_y c]
      have c' := e.mp c
      simp only [if_pos c']
      refine ⟨?_, i1⟩
      have b := ih.N.2.2.1
      have lt : ((hvW (sM 1 / 24) (sM, rM) n).1 14).toInt < 60 := by
        have q := c.2
        rw [ih.q.s 14, Int32.lt_iff_toInt_lt] at q
        have z60 : (60 : Int32).toInt = 60 := by decide
        omega
      have e1 := i_p1 b.1 (by omega)
      rw [pn_r (by omega), c1, nnB_q ih.q]
      unfold pnS
      rw [ih.q.s 14]
      refine jI_14 (jI_c (j_nn2 (j_nn1 ih _ _) ih.q _ _ _) 122 (by decide) _) _ ⟨by omega, by omega⟩
    · rw [pcW_z c]
      have c' : ¬ nnC (nI n) (sM 1 / 24) (hvW (sM 1 / 24) (sM, rM) n).1 (hvW (sM 1 / 24) (sM, rM) n).2 = true := fun q => c (e.mpr q)
      simp only [if_neg c']
      refine ⟨?_, i1⟩
      rw [pn_g (by omega), c1]
      exact j_nn1 ih _ _
theorem j_ph (h : jI sC rC sM rM) (hn : (sM 1).toInt < 743) : jI (phX sC rC).1 (phX sC rC).2 (hrX sM rM).1 (hrX sM rM).2 := by
  have b := h.N
  have b1 := b.1
  have b6 := b.2.1
  have b26 := b.2.2.2.1
  have e1 := i_p1 b.1.1 (by omega)
  have h1 : jI (s1H sC) rC (s1H sM) rM := by
    unfold s1H
    rw [h.q.s 1]
    obtain ⟨qa, qb, qc, qd, qe⟩ := h
    exact ⟨qR_s qa 1 _, ⟨⟨by show 0 ≤ (sM 1 + 1).toInt; omega, by show (sM 1 + 1).toInt ≤ 743; omega⟩, qb.2⟩, qc, qd, qe⟩
  have e2 : s1H sC 1 = s1H sM 1 := h1.q.s 1
  have t14 := t_ix b.2.2.1.1
  have t26 := t_ix b.2.2.2.1.1
  have t6 := t_ix b.2.1.1
  have hA : jI (s1H sC) (phA sC rC) (s1H sM) (swR (s1H sM) rM (sM 14).toNatClampNeg) := by
    unfold phA
    rw [e2, h.q.s 14, h.q.r 2]
    exact j_pa h1 _
  have hB : jI (s1H sC) (phB sC rC) (s1H sM) (hrK sM rM) := by
    unfold phB hrK
    rw [h.q.s 26]
    exact j_pb hA _ (by omega)
  unfold phX hrX
  rw [e2, h.q.s 6]
  by_cases c : s1H sM 1 - s1H sM 1 / 24 * 24 = 12
  · rw [if_pos c, if_pos c]
    exact (j_pc hB _ (by omega)).1
  · rw [if_neg c, if_neg c]
    exact hB
theorem j_kh : ∀ (n : Nat) {sC sM : Nat → Int32} {rC rM : Nat → Nat → Int32}, jI sC rC sM rM → jI (khT n sC rC).1 (khT n sC rC).2 (hsT n sM rM).1 (hsT n sM rM).2
  | 0, _, _, _, _, h => h
  | n + 1, sC, sM, rC, rM, h => by
    unfold khT hsT
    rw [h.q.s 1]
    by_cases c : 743 ≤ sM 1
    · rw [if_pos c, if_pos c]; exact h
    · rw [if_neg c, if_neg c]
      exact j_kh n (j_ph h (hs_lt c))
theorem hsT_0 : ∀ (n : Nat) (s : Nat → Int32) (r : Nat → Nat → Int32), (hsT n s r).1 0 = s 0
  | 0, _, _ => rfl
  | n + 1, s, r => by
    unfold hsT
    by_cases c : 743 ≤ s 1
    · rw [if_pos c]
    · rw [if_neg c, hsT_0 n, hrX_n (by decide) (by decide)]
theorem j_hours (h : jI sC rC sM rM) (a : Int32) (v : Int32) (hv : ¬ fIn a 0 100 = 0 → v = (khT a.toNatClampNeg sC rC).1 1) (s1 : Nat → Int32) (r1 : Nat → Nat → Int32) (hs : ¬ fIn a 0 100 = 0 → s1 = (khT a.toNatClampNeg sC rC).1) (hr : ¬ fIn a 0 100 = 0 → r1 = (khT a.toNatClampNeg sC rC).2) : jG [eA] (xHs a) v s1 r1 sC rC (vHs a sM rM) (hsX a sM rM).1 (hsX a sM rM).2 := by
  unfold vHs hsX
  by_cases c : fIn a 0 100 = 0
  · have e : xHs a = some eA := if_pos c
    rw [if_pos c, if_pos c, e]
    refine ⟨fun E q => ?_, ?_, fun q => ?_, fun _ => jI_0 h 1⟩
    · cases q; decide
    · show hC [eA] (some eA) = 1
      decide +kernel
    · cases q
  · have e : xHs a = none := if_neg c
    rw [if_neg c, if_neg c, e]
    have k := j_kh a.toNatClampNeg (jI_0 h 0)
    refine ⟨fun E q => ?_, ?_, fun _ => ⟨?_, ?_⟩, fun q => absurd rfl q⟩
    · cases q
    · show 0 = (hsT a.toNatClampNeg (upd sM 0 0) rM).1 0
      rw [hsT_0]
      rfl
    · rw [hv c]; exact k.q.s 1
    · rw [hs c, hr c]; exact k
end JU
