/-! call: the answer -/
theorem ca_44 (r : Nat → Nat → Int32) (i : Nat) (x y : Int32) : up2 (up2 (up2 (up2 (up2 (up2 (up2 (up2 (up2 (up2 (up2 (up2 (up2 (up2 (r) 49 i (-1)) 41 i (0)) 42 i (x)) 43 i (y)) 44 i (0)) 45 i (0)) 46 i (-1)) 47 i (0)) 48 i (0)) 50 i (-1)) 51 i (-1)) 42 i (x)) 43 i (y)) 44 i (1) = up2 (up2 (up2 (up2 (up2 (up2 (up2 (up2 (up2 (up2 (up2 (r) 49 i (-1)) 41 i (0)) 42 i (x)) 43 i (y)) 44 i (1)) 45 i (0)) 46 i (-1)) 47 i (0)) 48 i (0)) 50 i (-1)) 51 i (-1) := by
  funext f j
  simp only [up2_e]
  by_cases hj : j = i
  · subst hj
    by_cases h41 : f = 41
    · subst h41; simp
    by_cases h42 : f = 42
    · subst h42; simp
    by_cases h43 : f = 43
    · subst h43; simp
    by_cases h44 : f = 44
    · subst h44; simp
    by_cases h45 : f = 45
    · subst h45; simp
    by_cases h46 : f = 46
    · subst h46; simp
    by_cases h47 : f = 47
    · subst h47; simp
    by_cases h48 : f = 48
    · subst h48; simp
    by_cases h49 : f = 49
    · subst h49; simp
    by_cases h50 : f = 50
    · subst h50; simp
    by_cases h51 : f = 51
    · subst h51; simp
    simp [h41, h42, h43, h44, h45, h46, h47, h48, h49, h50, h51]
  · simp [hj]
theorem ca49_B (c : Int32) (r : Nat → Nat → Int32) (v : Int32) : caB c (up2 r 49 c.toNatClampNeg v) = up2 (caB c r) 49 c.toNatClampNeg v := by
  unfold caB
  rw [up2_nn _ _ _ (by decide), up2_nn _ _ _ (by decide)]
  split
  · rfl
  · exact up2_sw r (by decide) _ _ _ _
theorem ca49_C (c : Int32) (r : Nat → Nat → Int32) (v : Int32) : caC c (up2 r 49 c.toNatClampNeg v) = up2 (caC c r) 49 c.toNatClampNeg v := by
  unfold caC
  rw [up2_nn _ _ _ (by decide), up2_nn _ _ _ (by decide)]
  split
  · rfl
  · split
    · exact up2_sw r (by decide) _ _ _ _
    · split
      · rfl
      · exact up2_sw r (by decide) _ _ _ _
theorem ca49_D (c : Int32) (r : Nat → Nat → Int32) (v : Int32) : caD c (up2 r 49 c.toNatClampNeg v) = up2 (caD c r) 49 c.toNatClampNeg v := by
  unfold caD
  rw [up2_nn _ _ _ (by decide), up2_nn _ _ _ (by decide)]
  split
  · exact up2_sw r (by decide) _ _ _ _
  · rfl
theorem up2_tw (r : Nat → Nat → Int32) (f i : Nat) (x y : Int32) : up2 (up2 r f i x) f i y = up2 r f i y := by
  funext g j
  rw [up2_e, up2_e, up2_e]
  by_cases h : g = f ∧ j = i
  · rw [if_pos h, if_pos h]
  · rw [if_neg h, if_neg h, if_neg h]
theorem ca49_E (c : Int32) (s : Nat → Int32) (r : Nat → Nat → Int32) (v : Int32) : caE c s (up2 r 49 c.toNatClampNeg v) = caE c s r := by
  unfold caE
  rw [up2_nn r (f := 49) (g := 48) _ _ (by decide), up2_sw r (f := 49) (g := 48) (by decide), up2_tw]
theorem ca49_n (c : Int32) (r : Nat → Nat → Int32) (v x y z : Int32) : up2 (up2 (up2 (up2 (up2 (up2 (up2 (up2 (up2 (up2 (up2 r 49 c.toNatClampNeg v) 41 (Int32.toNatClampNeg c) (0)) 42 (Int32.toNatClampNeg c) (x)) 43 (Int32.toNatClampNeg c) (y)) 44 (Int32.toNatClampNeg c) (z)) 45 (Int32.toNatClampNeg c) (0)) 46 (Int32.toNatClampNeg c) (-1)) 47 (Int32.toNatClampNeg c) (0)) 48 (Int32.toNatClampNeg c) (0)) 50 (Int32.toNatClampNeg c) (-1)) 51 (Int32.toNatClampNeg c) (-1) = up2 (up2 (up2 (up2 (up2 (up2 (up2 (up2 (up2 (up2 (up2 (r) 41 (Int32.toNatClampNeg c) (0)) 42 (Int32.toNatClampNeg c) (x)) 43 (Int32.toNatClampNeg c) (y)) 44 (Int32.toNatClampNeg c) (z)) 45 (Int32.toNatClampNeg c) (0)) 46 (Int32.toNatClampNeg c) (-1)) 47 (Int32.toNatClampNeg c) (0)) 48 (Int32.toNatClampNeg c) (0)) 50 (Int32.toNatClampNeg c) (-1)) 51 (Int32.toNatClampNeg c) (-1)) 49 c.toNatClampNeg v := by
  rw [up2_sw _ (f := 49) (g := 41) (by decide), up2_sw _ (f := 49) (g := 42) (by decide), up2_sw _ (f := 49) (g := 43) (by decide), up2_sw _ (f := 49) (g := 44) (by decide), up2_sw _ (f := 49) (g := 45) (by decide), up2_sw _ (f := 49) (g := 46) (by decide), up2_sw _ (f := 49) (g := 47) (by decide), up2_sw _ (f := 49) (g := 48) (by decide), up2_sw _ (f := 49) (g := 50) (by decide), up2_sw _ (f := 49) (g := 51) (by decide)]
theorem clS_0 (s : Nat → Int32) (r : Nat → Nat → Int32) : clS s r 0 = 0 := by
  unfold clS rdX
  rw [rdC_n (by decide) (by decide)]
  rfl
theorem upd_z {s : Nat → Int32} {f : Nat} {v : Int32} (h : s f = v) : upd s f v = s := by rw [← h]; exact upd_id s f
theorem mlR_s {i : Nat} {n : Int32} {s s' : Nat → Int32} {r : Nat → Nat → Int32} (h : ∀ f, 104 ≤ f → f ≤ 109 → s' f = s f) : mlR i n s r = mlR i n s' r := by
  have eA : mlA i s' r = mlA i s r := by unfold mlA; rw [h 104 (by decide) (by decide), h 105 (by decide) (by decide), h 109 (by decide) (by decide)]
  have eC : ∀ q, mlC i s' q = mlC i s q := fun q => by unfold mlC mlH; rw [h 106 (by decide) (by decide), h 107 (by decide) (by decide)]
  have eD : ∀ q, mlD i s' q = mlD i s q := fun q => by unfold mlD; rw [h 108 (by decide) (by decide)]
  unfold mlR
  rw [eA, eC, eD]
section JCB
variable {sC sM : Nat → Int32} {rC rM : Nat → Nat → Int32}
theorem mlA_n {s : Nat → Int32} {r : Nat → Nat → Int32} {i : Nat} (z : Int32) (h44 : r 44 i = 0) (hz : z = if s 109 = 0 then 1 else 0) : mlA i s r = if s 109 = 0 then up2 (up2 (up2 r 42 i (s 104)) 43 i (s 105)) 44 i 1 else r := by
  unfold mlA
  by_cases y : s 109 = 0
  · rw [if_pos y, if_pos y, if_pos h44]
  · rw [if_neg y, if_neg y]
theorem j_call (h : jI sC rC sM rM) (v : Int32) (s1 : Nat → Int32) (r1 : Nat → Nat → Int32)
    (hold : xCl sC rC = none → ¬ kcN sC rC = -1 → v = kcN sC rC ∧ s1 = upd (kcS sC rC) 40 (kcS sC rC 40 + 1) ∧ r1 = mlR (Int32.toNatClampNeg (kcN sC rC)) (kcS sC rC 1) (kcS sC rC) rC)
    (hnew : xCl sC rC = none → kcN sC rC = -1 → ∀ sc : Nat → Int32, sc = kcS sC rC → v = sc 39 ∧ s1 = upd (upd (upd sc 124 (sc 124 + 1)) 39 (sc 39 + 1)) 40 (sc 40 + 1) ∧ r1 = mlR (Int32.toNatClampNeg (sc 39)) (sc 1) (upd (upd sc 124 (sc 124 + 1)) 39 (sc 39 + 1)) (up2 (up2 (up2 (up2 (up2 (up2 (up2 (up2 (up2 (up2 (up2 (zca rC (sc 39).toNatClampNeg) 44 ((sc 39).toNatClampNeg) 0) 41 ((sc 39).toNatClampNeg) 0) 45 ((sc 39).toNatClampNeg) 0) 46 ((sc 39).toNatClampNeg) (-1)) 47 ((sc 39).toNatClampNeg) 0) 48 ((sc 39).toNatClampNeg) 0) 49 ((sc 39).toNatClampNeg) (-1)) 50 ((sc 39).toNatClampNeg) (-1)) 51 ((sc 39).toNatClampNeg) (-1)) 42 ((sc 39).toNatClampNeg) (sc 104)) 43 ((sc 39).toNatClampNeg) (sc 105))) : jG [eA, eU] (xCl sC rC) v s1 r1 (kcS sC rC) rC (clX sM rM).1 (clX sM rM).2.1 (clX sM rM).2.2 := by
  have J1 := jI_cl h 1
  have J2 := jI_cl h 2
  have J := jI_cl h 0
  rw [upd_z (clS_0 sM rM)] at J
  have hr := cl_read h
  have h0M := clS_0 sM rM
  unfold xCl at hold hnew ⊢
  unfold clX
  have hkf : ∀ f, 104 ≤ f → f ≤ 109 → kcS sC rC f = (rdZ (sC 1) sC rC).2 f := fun f y _ => kc_hi (by omega)
  have hkN : kcN sC rC = fF (faP (kcS sC rC) rC) (kcS sC rC 39).toNatClampNeg 0 := rfl
  generalize rdZ (sC 1) sC rC = X at *
  generalize kcS sC rC = S at *
  generalize kcN sC rC = kn at *
  generalize clV sM rM = V at *
  generalize clS sM rM = M at *
  generalize clR sM rM = R at *
  rcases hr with ⟨a, b, -⟩ | ⟨a, b, jf0, f0, -⟩
  · rw [if_pos a, if_pos b]
    refine ⟨fun E q => ?_, ?_, fun q => ?_, fun _ => J1⟩
    · cases q; decide
    · show hC [eA, eU] (some eA) = 1
      decide +kernel
    · cases q
  rw [if_neg a, if_neg b]
  rw [if_neg a] at hold hnew
  have jfS : jf S R := jf_eq jf0 (fun f y z => hkf f y z) rfl rfl
  have e40 := J.q.s 40
  have e39 := J.q.s 39
  have b40 := J.b40
  have b39 := J.N.2.2.2.2.1
  have z200 : (200 : Int32).toInt = 200 := by decide
  have z60 : (60 : Int32).toInt = 60 := by decide
  have bad : ∀ (E : (Nat → Int32) × (Nat → Nat → Int32)), jG [eA, eU] (some "java/lang/UnsupportedOperationException") v s1 r1 S rC 0 (upd M 0 2) R := fun _ => by
    refine ⟨fun E q => ?_, ?_, fun q => ?_, fun _ => J2⟩
    · cases q; decide
    · show hC [eA, eU] (some eU) = 2
      decide +kernel
    · cases q
  by_cases c40 : M 40 = 200
  · rw [if_pos c40, if_neg (by rw [e40, c40]; decide)]
    exact bad (S, rC)
  have l40 : S 40 < 200 := by
    rw [e40, Int32.lt_iff_toInt_lt]
    have : ¬ (M 40).toInt = 200 := fun q => c40 (Int32.toInt_inj.mp (by omega))
    omega
  have m40 : (M 40).toInt < 200 := by rw [e40, Int32.lt_iff_toInt_lt] at l40; omega
  have p40 := i_p1 b40.1 (by omega)
  rw [if_neg c40, if_pos l40]
  rw [if_pos l40] at hold hnew
  have eN : kn = fMt M R := by
    rw [hkN, e39]
    exact fF_eq (fun j => al_mt J jfS f0 j) _ _
  rw [eN] at hold hnew ⊢
  by_cases cN : fMt M R = -1
  · rw [if_pos cN, if_pos cN]
    rw [if_pos cN] at hold hnew
    by_cases c39 : M 39 = 60
    · rw [if_pos c39, if_neg (by rw [e39, c39]; decide)]
      exact bad (S, rC)
    have l39 : S 39 < 60 := by
      rw [e39, Int32.lt_iff_toInt_lt]
      have : ¬ (M 39).toInt = 60 := fun q => c39 (Int32.toInt_inj.mp (by omega))
      omega
    have m39 : (M 39).toInt < 60 := by rw [e39, Int32.lt_iff_toInt_lt] at l39; omega
    have p39 := i_p1 b39.1 (by omega)
    rw [if_neg c39, if_pos l39]
    rw [if_pos l39] at hnew
    obtain ⟨q1, q2, q3⟩ := hnew rfl cN S rfl
    refine ⟨fun E q => ?_, ?_, fun _ => ?_, fun q => absurd rfl q⟩
    · cases q
    · show (0 : Int32) = (upd (upd M 40 (M 40 + 1)) 39 (M 39 + 1)) 0
      rw [upd_n _ (by decide), upd_n _ (by decide), h0M]
    · show v = M 39 ∧ jI s1 r1 (upd (upd M 40 (M 40 + 1)) 39 (M 39 + 1)) (caE (M 39) (upd (upd M 40 (M 40 + 1)) 39 (M 39 + 1)) (caD (M 39) (caC (M 39) (caB (M 39) (caN M R).2.2))))
      refine ⟨q1.trans e39, ?_⟩
      have pf := jfS.1.2 f0
      have K1 := jI_39 (jI_40 (jI_c J 124 (by decide) (S 124 + 1)) (M 40 + 1) ⟨by omega, by omega⟩) (M 39 + 1) ⟨by show (M 39).toInt ≤ _; omega, by omega⟩
      generalize hM2 : upd (upd M 40 (M 40 + 1)) 39 (M 39 + 1) = M2 at K1 ⊢
      generalize hS2 : upd (upd (upd S 124 (S 124 + 1)) 40 (M 40 + 1)) 39 (M 39 + 1) = S2 at K1
      have S2f : ∀ f, 104 ≤ f → f ≤ 109 → S2 f = S f := fun f y z => by
        rw [← hS2, upd_n _ (by omega), upd_n _ (by omega), upd_n _ (by omega)]
      have jf2 : jf S2 R := jf_eq jfS S2f rfl rfl
      have M21 : M2 1 = M 1 := by rw [← hM2, upd_n _ (by decide), upd_n _ (by decide)]
      -- the chains
      have K2 := jI_up (jI_up (jI_up (jI_up (jI_up (jI_up (jI_up (jI_up (jI_up (jI_up (jI_up K1 49 (M 39).toNatClampNeg (-1) rfl trivial) 41 (M 39).toNatClampNeg 0 rfl (show 0 ≤ (0 : Int32).toInt by decide)) 42 (M 39).toNatClampNeg (R 65 0) rfl pf.2.2.1) 43 (M 39).toNatClampNeg (R 65 1) rfl pf.2.2.2) 44 (M 39).toNatClampNeg (if R 66 4 = 0 then 1 else 0) rfl trivial) 45 (M 39).toNatClampNeg 0 rfl trivial) 46 (M 39).toNatClampNeg (-1) rfl (Or.inl rfl)) 47 (M 39).toNatClampNeg 0 rfl trivial) 48 (M 39).toNatClampNeg 0 rfl trivial) 50 (M 39).toNatClampNeg (-1) rfl trivial) 51 (M 39).toNatClampNeg (-1) rfl trivial
      have jf3 := jf_eq (s' := S2) jf2 (fun _ _ _ => rfl) (show (up2 (up2 (up2 (up2 (up2 (up2 (up2 (up2 (up2 (up2 (up2 R 49 (M 39).toNatClampNeg (-1)) 41 (M 39).toNatClampNeg 0) 42 (M 39).toNatClampNeg (R 65 0)) 43 (M 39).toNatClampNeg (R 65 1)) 44 (M 39).toNatClampNeg (if R 66 4 = 0 then 1 else 0)) 45 (M 39).toNatClampNeg 0) 46 (M 39).toNatClampNeg (-1)) 47 (M 39).toNatClampNeg 0) 48 (M 39).toNatClampNeg 0) 50 (M 39).toNatClampNeg (-1)) 51 (M 39).toNatClampNeg (-1)) 65 = R 65 from by funext j; simp [up2_e]) (by funext j; simp [up2_e])
      have K3 := j_ml (rC := up2 (up2 (up2 (up2 (up2 (up2 (up2 (up2 (up2 (up2 (up2 rC 49 (M 39).toNatClampNeg (-1)) 41 (M 39).toNatClampNeg 0) 42 (M 39).toNatClampNeg (R 65 0)) 43 (M 39).toNatClampNeg (R 65 1)) 44 (M 39).toNatClampNeg 0) 45 (M 39).toNatClampNeg 0) 46 (M 39).toNatClampNeg (-1)) 47 (M 39).toNatClampNeg 0) 48 (M 39).toNatClampNeg 0) 50 (M 39).toNatClampNeg (-1)) 51 (M 39).toNatClampNeg (-1)) K2 jf3 (M 39) (by
        have s4 := S2f 104 (by decide) (by decide)
        have s5 := S2f 105 (by decide) (by decide)
        have s9 := S2f 109 (by decide) (by decide)
        unfold mlA
        rw [s4, s5, s9, pf.1, pf.2.1]
        by_cases y : R 66 4 = 0
        · rw [if_pos (jfS.2.2.2.2.mp y), if_pos y, if_pos (by simp [up2_e])]
          exact ca_44 rC _ _ _
        · rw [if_neg (fun q => y (jfS.2.2.2.2.mpr q)), if_neg y])
      have eR : caE (M 39) M2 (caD (M 39) (caC (M 39) (caB (M 39) (caN M R).2.2))) = caE (M 39) M2 (caD (M 39) (caC (M 39) (caB (M 39) (up2 (up2 (up2 (up2 (up2 (up2 (up2 (up2 (up2 (up2 (up2 R 49 (M 39).toNatClampNeg (-1)) 41 (M 39).toNatClampNeg 0) 42 (M 39).toNatClampNeg (R 65 0)) 43 (M 39).toNatClampNeg (R 65 1)) 44 (M 39).toNatClampNeg (if R 66 4 = 0 then 1 else 0)) 45 (M 39).toNatClampNeg 0) 46 (M 39).toNatClampNeg (-1)) 47 (M 39).toNatClampNeg 0) 48 (M 39).toNatClampNeg 0) 50 (M 39).toNatClampNeg (-1)) 51 (M 39).toNatClampNeg (-1))))) := by
        rw [ca49_n (M 39) R (-1) (R 65 0) (R 65 1) (if R 66 4 = 0 then 1 else 0), ca49_B, ca49_C, ca49_D, ca49_E]
        unfold caN
        rw [c0, c1, c4]
      rw [eR]
      have eC : r1 = mlR (M 39).toNatClampNeg (M2 1) S2 (up2 (up2 (up2 (up2 (up2 (up2 (up2 (up2 (up2 (up2 (up2 rC 49 (M 39).toNatClampNeg (-1)) 41 (M 39).toNatClampNeg 0) 42 (M 39).toNatClampNeg (R 65 0)) 43 (M 39).toNatClampNeg (R 65 1)) 44 (M 39).toNatClampNeg 0) 45 (M 39).toNatClampNeg 0) 46 (M 39).toNatClampNeg (-1)) 47 (M 39).toNatClampNeg 0) 48 (M 39).toNatClampNeg 0) 50 (M 39).toNatClampNeg (-1)) 51 (M 39).toNatClampNeg (-1)) := by
        rw [q3, ca_ch, e39, J.q.s 1, M21, pf.1, pf.2.1]
        exact mlR_s (fun f y z => by rw [S2f f y z, upd_n _ (by omega), upd_n _ (by omega)])
      rw [eC]
      refine jI_cs K3 (fun f hf => ?_)
      rw [q2, ← hS2, e39, e40]
      have : ∀ f, f ∈ [1, 6, 14, 26, 39, 40, 52, 57, 61, 64] → ¬ f = 124 := by decide
      have hf' := this f hf
      unfold upd
      by_cases y : f = 40
      · subst y; rfl
      · by_cases z : f = 39
        · subst z; rfl
        · simp [y, z, hf']
  · rw [if_neg cN, if_neg cN]
    rw [if_neg cN] at hold
    obtain ⟨q1, q2, q3⟩ := hold rfl cN
    refine ⟨fun E q => ?_, ?_, fun _ => ?_, fun q => absurd rfl q⟩
    · cases q
    · show (0 : Int32) = (upd M 40 (M 40 + 1)) 0
      rw [upd_n _ (by decide), h0M]
    · show v = fMt M R ∧ jI s1 r1 (upd M 40 (M 40 + 1)) (caE (fMt M R) (upd M 40 (M 40 + 1)) (caD (fMt M R) (caC (fMt M R) (caB (fMt M R) (caO (fMt M R) M R).2.2))))
      refine ⟨q1, ?_⟩
      rw [q2, q3, e40, J.q.s 1]
      have A := mlA_q J jfS f0 (fMt M R)
      have eO : (caO (fMt M R) M R).2.2 = if R 44 (fMt M R).toNatClampNeg = 0 then (if R 66 4 = 0 then up2 (up2 (up2 R 42 (fMt M R).toNatClampNeg (R 65 0)) 43 (fMt M R).toNatClampNeg (R 65 1)) 44 (fMt M R).toNatClampNeg 1 else R) else R := by
        unfold caO
        rw [c0, c1, c4]
      rw [eO]
      have eE : ∀ r : Nat → Nat → Int32, caE (fMt M R) (upd M 40 (M 40 + 1)) r = caE (fMt M R) M r := fun r => by
        unfold caE
        rw [upd_n _ (by decide)]
      rw [eE]
      have o5 : ∀ f, f = 65 ∨ f = 66 → (if R 44 (fMt M R).toNatClampNeg = 0 then (if R 66 4 = 0 then up2 (up2 (up2 R 42 (fMt M R).toNatClampNeg (R 65 0)) 43 (fMt M R).toNatClampNeg (R 65 1)) 44 (fMt M R).toNatClampNeg 1 else R) else R) f = R f := fun f hf => by
        split
        · split
          · rw [up2_nn _ _ _ (by omega), up2_nn _ _ _ (by omega), up2_nn _ _ _ (by omega)]
          · rfl
        · rfl
      exact jI_40 (j_ml A (jf_eq jfS (fun _ _ _ => rfl) (o5 65 (Or.inl rfl)) (o5 66 (Or.inr rfl))) (fMt M R) rfl) (M 40 + 1) ⟨by omega, by omega⟩
end JCB
