/-! hive, keeper -/
theorem hv_ch (r : Nat → Nat → Int32) (i : Nat) (x y b ro mk : Int32) : up2 (up2 (up2 (up2 (up2 (up2 (up2 (zhv r i) 12 i (0)) 13 i (-1)) 7 i (x)) 8 i (y)) 9 i (b)) 10 i (ro)) 11 i (mk) = up2 (up2 (up2 (up2 (up2 (up2 (up2 (r) 7 i (x)) 8 i (y)) 9 i (b)) 10 i (ro)) 11 i (mk)) 12 i (0)) 13 i (-1) := by
  funext f j
  simp only [zhv, up2_e]
  by_cases hj : j = i
  · subst hj
    by_cases h7 : f = 7
    · subst h7; simp
    by_cases h8 : f = 8
    · subst h8; simp
    by_cases h9 : f = 9
    · subst h9; simp
    by_cases h10 : f = 10
    · subst h10; simp
    by_cases h11 : f = 11
    · subst h11; simp
    by_cases h12 : f = 12
    · subst h12; simp
    by_cases h13 : f = 13
    · subst h13; simp
    simp [h7, h8, h9, h10, h11, h12, h13]
  · simp [hj]
theorem kp_ch (r : Nat → Nat → Int32) (i : Nat) (x y b la pa fr to : Int32) : up2 (up2 (up2 (up2 (up2 (up2 (up2 (up2 (up2 (up2 (up2 (up2 (zkp r i) 34 i (0)) 36 i (0)) 35 i (0)) 37 i (-1)) 38 i (0)) 27 i (x)) 28 i (y)) 29 i (b)) 30 i (la)) 31 i (pa)) 32 i (fr)) 33 i (to) = up2 (up2 (up2 (up2 (up2 (up2 (up2 (up2 (up2 (up2 (up2 (up2 (r) 36 i (0)) 27 i (x)) 28 i (y)) 29 i (b)) 30 i (la)) 31 i (pa)) 32 i (fr)) 33 i (to)) 34 i (0)) 35 i (0)) 37 i (-1)) 38 i (0) := by
  funext f j
  simp only [zkp, up2_e]
  by_cases hj : j = i
  · subst hj
    by_cases h27 : f = 27
    · subst h27; simp
    by_cases h28 : f = 28
    · subst h28; simp
    by_cases h29 : f = 29
    · subst h29; simp
    by_cases h30 : f = 30
    · subst h30; simp
    by_cases h31 : f = 31
    · subst h31; simp
    by_cases h32 : f = 32
    · subst h32; simp
    by_cases h33 : f = 33
    · subst h33; simp
    by_cases h34 : f = 34
    · subst h34; simp
    by_cases h35 : f = 35
    · subst h35; simp
    by_cases h36 : f = 36
    · subst h36; simp
    by_cases h37 : f = 37
    · subst h37; simp
    by_cases h38 : f = 38
    · subst h38; simp
    simp [h27, h28, h29, h30, h31, h32, h33, h34, h35, h36, h37, h38]
  · simp [hj]
theorem up2_id (r : Nat → Nat → Int32) (f i : Nat) (x : Int32) (h : r f i = x) : up2 r f i x = r := by
  funext g j
  rw [up2_e]
  by_cases c : g = f ∧ j = i
  · rw [if_pos c, c.1, c.2, h]
  · rw [if_neg c]
section JH
variable {sC sM : Nat → Int32} {rC rM : Nat → Nat → Int32}
theorem xHi_in {x y b ro mk : Int32} {s : Nat → Int32} : ∀ E, xHi x y b ro mk s = some E → E ∈ [eA, eU] := by
  intro E h
  unfold xHi at h
  repeat (first | (split at h) | (cases h; decide) | (cases h))
theorem xKe_in {x y b la pa fr to : Int32} {s : Nat → Int32} : ∀ E, xKe x y b la pa fr to s = some E → E ∈ [eA, eU] := by
  intro E h
  unfold xKe at h
  repeat (first | (split at h) | (cases h; decide) | (cases h))
theorem kPl_b {x y : Int32} (h : ¬ kPl x y = 0) : j19 x ∧ j19 y := by
  have a : ¬ fIn x 0 19 = 0 := fun q => h (kPl_x q)
  have b : ¬ fIn y 0 19 = 0 := fun q => h (kPl_y q)
  exact ⟨jn_b a, jn_b b⟩
theorem xHi_n {x y b ro mk : Int32} {s : Nat → Int32} (h : xHi x y b ro mk s = none) : ¬ kPl x y = 0 ∧ (s 6).toInt < 20 := by
  unfold xHi at h
  split at h
  · cases h
  rename_i c0
  split at h
  · cases h
  split at h
  · cases h
  split at h
  · cases h
  split at h
  · rename_i c; exact ⟨c0, Int32.lt_iff_toInt_lt.mp c⟩
  · cases h
theorem xKe_n {x y b la pa fr to : Int32} {s : Nat → Int32} (h : xKe x y b la pa fr to s = none) : ¬ kPl x y = 0 ∧ ¬ fIn b 0 20 = 0 ∧ ¬ fIn pa 1 10 = 0 ∧ (s 26).toInt < 12 := by
  unfold xKe at h
  split at h
  · cases h
  rename_i c0
  split at h
  · cases h
  rename_i c1
  split at h
  · cases h
  split at h
  · cases h
  rename_i c2
  split at h
  · cases h
  split at h
  · cases h
  split at h
  · rename_i c; exact ⟨c0, c1, c2, Int32.lt_iff_toInt_lt.mp c⟩
  · cases h
theorem i_p1 {x : Int32} (h0 : 0 ≤ x.toInt) (h1 : x.toInt ≤ 1000) : (x + 1).toInt = x.toInt + 1 := by
  have z : (1 : Int32).toInt = 1 := by decide
  have := t_add (x := x) (y := 1) (by omega) (by omega)
  omega
/-- a count of the class's own is changed -/
theorem jI_c (h : jI sC rC sM rM) (k : Nat) (hk : 100 ≤ k) (x : Int32) : jI (upd sC k x) rC sM rM := by
  refine ⟨⟨fun f hf => ?_, h.1.2⟩, h.2⟩
  have : ∀ f, f ∈ [1, 6, 14, 26, 39, 40, 52, 57, 61, 64] → f < 100 := by decide
  have hf2 := this f hf
  rw [← h.1.1 f hf]
  exact if_neg (by omega)
theorem qR_s (h : qR sC rC sM rM) (k : Nat) (x : Int32) : qR (upd sC k x) rC (upd sM k x) rM := by
  refine ⟨fun f hf => ?_, h.2⟩
  show (if f = k then x else sC f) = if f = k then x else sM f
  rw [h.1 f hf]
theorem jI_6 (h : jI sC rC sM rM) (x : Int32) (hx : 0 ≤ x.toInt ∧ x.toInt ≤ 20) : jI (upd sC 6 x) rC (upd sM 6 x) rM := by
  obtain ⟨a, b, c, d, e⟩ := h
  exact ⟨qR_s a 6 x, ⟨b.1, hx, b.2.2⟩, c, d, e⟩
theorem j_hive (h : jI sC rC sM rM) (x y b ro mk : Int32) : jG [eA, eU] (xHi x y b ro mk sC) (sC 6 + 1 - 1) (upd (upd sC 121 (sC 121 + 1)) 6 (sC 6 + 1)) (up2 (up2 (up2 (up2 (up2 (up2 (up2 (zhv rC ((sC 6).toNatClampNeg)) 12 ((sC 6).toNatClampNeg) 0) 13 ((sC 6).toNatClampNeg) (-1)) 7 ((sC 6).toNatClampNeg) x) 8 ((sC 6).toNatClampNeg) y) 9 ((sC 6).toNatClampNeg) b) 10 ((sC 6).toNatClampNeg) ro) 11 ((sC 6).toNatClampNeg) mk) sC rC (vHi x y b ro mk sM) (sHi x y b ro mk sM) (rHi x y b ro mk sM rM) := by
  have e : xHi x y b ro mk sC = xHi x y b ro mk sM := by unfold xHi; rw [h.q.s 6]
  rw [e, h.q.s 6]
  have hk := px_hi x y b ro mk sM h.N.2.1.2
  refine ⟨xHi_in, ?_, fun q => ?_, fun q => ?_⟩
  · rw [hk]
    unfold sHi
    by_cases c : kHi x y b ro mk sM = 0
    · rw [if_pos c, c]; rfl
    · rw [if_neg c]; rfl
  · have q0 := q
    rw [q] at hk
    have hk0 : kHi x y b ro mk sM = 0 := hk.symm
    unfold vHi sHi rHi
    rw [if_pos hk0, if_pos hk0, if_pos hk0]
    refine ⟨rfl, ?_⟩
    have n := xHi_n q0
    have p := kPl_b n.1
    have n0 := h.N.2.1.1
    have e1 := i_p1 n0 (by omega)
    rw [hv_ch]
    exact jI_6 (jI_0 (jI_c (jI_up (jI_up (jI_up (jI_up (jI_up (jI_up (jI_up h 7 _ x rfl p.1) 8 _ y rfl p.2) 9 _ b rfl trivial) 10 _ ro rfl trivial) 11 _ mk rfl trivial) 12 _ 0 rfl trivial) 13 _ (-1) rfl (Or.inl rfl)) 121 (by decide) _) 0) _ ⟨by omega, by omega⟩
  · have t := hC_n (cs := [eA, eU]) (by decide) q
    rw [hk] at t
    unfold sHi rHi
    rw [if_neg t, if_neg t]
    exact jI_0 h _
theorem j_keeper (h : jI sC rC sM rM) (x y b la pa fr to : Int32) : jG [eA, eU] (xKe x y b la pa fr to sC) (sC 26 + 1 - 1) (upd (upd sC 123 (sC 123 + 1)) 26 (sC 26 + 1)) (up2 (up2 (up2 (up2 (up2 (up2 (up2 (up2 (up2 (up2 (up2 (up2 (zkp rC ((sC 26).toNatClampNeg)) 34 ((sC 26).toNatClampNeg) 0) 36 ((sC 26).toNatClampNeg) 0) 35 ((sC 26).toNatClampNeg) 0) 37 ((sC 26).toNatClampNeg) (-1)) 38 ((sC 26).toNatClampNeg) 0) 27 ((sC 26).toNatClampNeg) x) 28 ((sC 26).toNatClampNeg) y) 29 ((sC 26).toNatClampNeg) b) 30 ((sC 26).toNatClampNeg) la) 31 ((sC 26).toNatClampNeg) pa) 32 ((sC 26).toNatClampNeg) fr) 33 ((sC 26).toNatClampNeg) to) sC rC (vKe x y b la pa fr to sM) (sKe x y b la pa fr to sM) (rKe x y b la pa fr to sM rM) := by
  have e : xKe x y b la pa fr to sC = xKe x y b la pa fr to sM := by unfold xKe; rw [h.q.s 26]
  rw [e, h.q.s 26]
  have hk := px_ke x y b la pa fr to sM h.N.2.2.2.1.2
  refine ⟨xKe_in, ?_, fun q => ?_, fun q => ?_⟩
  · rw [hk]
    unfold sKe
    by_cases c : kKe x y b la pa fr to sM = 0
    · rw [if_pos c, c]; rfl
    · rw [if_neg c]; rfl
  · have q0 := q
    rw [q] at hk
    have hk0 : kKe x y b la pa fr to sM = 0 := hk.symm
    unfold vKe sKe rKe
    rw [if_pos hk0, if_pos hk0, if_pos hk0]
    have n := xKe_n q0
    have p := kPl_b n.1
    have n0 := h.N.2.2.2.1.1
    have b1 := jn_b n.2.1
    have b2 := jn_b n.2.2.1
    have n3 := n.2.2.2
    have e1 := i_p1 n0 (by omega)
    refine ⟨by rw [Int32.add_sub_cancel], ?_⟩
    rw [kp_ch]
    have ti := t_ix n0
    have ti1 : (sM 26 + 1).toNatClampNeg = (sM 26).toNatClampNeg + 1 := by
      have := t_ix (x := sM 26 + 1) (by omega)
      omega
    obtain ⟨qa, qb, qc, qd, qe⟩ := h
    have h36 : up2 rM 36 (sM 26).toNatClampNeg 0 = rM := up2_id _ _ _ _ (qd.2.2.2.2 _ (Nat.le_refl _))
    have r0 : ∀ {s : Nat → Int32} {r : Nat → Nat → Int32} {s' : Nat → Int32} {r' : Nat → Nat → Int32}, qR s r s' r' → ∀ f x, qR s (up2 r f (sM 26).toNatClampNeg x) s' (up2 r' f (sM 26).toNatClampNeg x) := fun hq f x => qR_up hq f _ x
    have q36 : qR sC (up2 rC 36 (sM 26).toNatClampNeg 0) sM rM := by
      have := r0 qa 36 0
      rw [h36] at this
      exact this
    have qq := r0 (r0 (r0 (r0 (r0 (r0 (r0 (r0 (r0 (r0 (r0 q36 27 x) 28 y) 29 b) 30 la) 31 pa) 32 fr) 33 to) 34 0) 35 0) 37 (-1)) 38 0
    refine ⟨?_, ?_, ?_, ?_, ?_⟩
    · refine qR_s ?_ 26 (sM 26 + 1)
      refine ⟨fun f hf => ?_, qq.2⟩
      have : ∀ f, f ∈ [1, 6, 14, 26, 39, 40, 52, 57, 61, 64] → ¬ f = 123 ∧ ¬ f = 0 := by decide
      have hf2 := this f hf
      show (if f = 123 then sC 123 + 1 else sC f) = if f = 0 then 0 else sM f
      rw [if_neg hf2.1, if_neg hf2.2]
      exact qa.1 f hf
    · exact ⟨qb.1, qb.2.1, qb.2.2.1, ⟨by show 0 ≤ (sM 26 + 1).toInt; omega, by show (sM 26 + 1).toInt ≤ 12; omega⟩, qb.2.2.2.2⟩
    · exact jE_up (jE_up (jE_up (jE_up (jE_up (jE_up (jE_up (jE_up (jE_up (jE_up (jE_up qc (g := 27) p.1) (g := 28) p.2) (g := 29) b1) (g := 30) trivial) (g := 31) trivial) (g := 32) trivial) (g := 33) trivial) (g := 34) (Or.inl rfl)) (g := 35) trivial) (g := 37) trivial) (g := 38) trivial
    · have z1 : (1 : Int32).toInt = 1 := by decide
      have z10 : (10 : Int32).toInt = 10 := by decide
      refine ⟨fun j hj => ?_, fun j hj => ?_, fun j hj => ?_, fun j hj => ?_, fun j hj => ?_⟩
      · have hj' : j < (sM 26 + 1).toNatClampNeg := hj
        simp [up2_e]
        by_cases c : j = (sM 26).toNatClampNeg
        · rw [if_pos c]; omega
        · rw [if_neg c]; exact qd.1 j (by omega)
      · simp [up2_e] at hj ⊢
        by_cases c : j = (sM 26).toNatClampNeg
        · rw [if_pos c] at hj; exact absurd hj (by decide)
        · rw [if_neg c] at hj; rw [if_neg c]; exact qd.2.1 j hj
      · show _ ∧ _ < (sM 39).toInt
        simp [up2_e] at hj ⊢
        by_cases c : j = (sM 26).toNatClampNeg
        · rw [if_pos c] at hj; exact absurd hj (by decide)
        · rw [if_neg c] at hj; rw [if_neg c]; exact qd.2.2.1 j hj
      · exact qd.2.2.2.1 j hj
      · have hj' : (sM 26 + 1).toNatClampNeg ≤ j := hj
        exact qd.2.2.2.2 j (by omega)
    · refine jQ_eq qe ?_ (fun dd hd => ?_) rfl (by show (sM 26).toInt ≤ (sM 26 + 1).toInt; omega) ?_ ?_ ?_
      · funext j; simp [up2_e]
      · funext j
        simp only [up2_e]
        repeat rw [if_neg (by omega)]
      · funext j; simp [up2_e]
      · funext j; simp [up2_e]
      · funext j; simp [up2_e]
  · have t := hC_n (cs := [eA, eU]) (by decide) q
    rw [hk] at t
    unfold sKe rKe
    rw [if_neg t, if_neg t]
    exact jI_0 h _
end JH
