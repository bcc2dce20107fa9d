/-! the two readers: the lines; rota -/
section JRA
variable {e : Nat}
theorem rl_A (kn : Int32) (nk : Nat) (hkn : kn.toInt = nk) (hk12 : nk ≤ 12) (d : Nat) (hd : d < 10) {s0 S : Nat → Int32} {rC rM : Nat → Nat → Int32} {p : Nat} (h : jp s0 rC S rM e p) (h26 : S 26 = kn) (hj : jd rC rM nk d) : jX1 kn nk d e S rC rM (rlZ kn (adS s0 rC) rC) (rlA (10 + d) S rM) := by
  have w20 := jp_w20 h
  have w21 := jp_w21 h
  have z65 : jw rC rM rC (rl0 rM) := ⟨fun _ _ _ => rfl, fun f a b c g => up2_nn _ _ _ g, fun j _ => ⟨congrFun (up2_nn _ _ _ (by decide)) j, congrFun (up2_nn _ _ _ (by decide)) j⟩, fun j _ => congrFun (up2_nn _ _ _ (by decide)) j⟩
  have r0o : ∀ f, ¬ f = 65 → rl0 rM f = rM f := fun f g => up2_nn _ _ _ g
  have e1 : rlZ kn (adS s0 rC) rC = if (rdD (adS s0 rC) rC).1 = -1 then (0, (rdD (adS s0 rC) rC).2, rC) else if kSg 58 (adS (rdD (adS s0 rC) rC).2 rC) rC = 0 then (0, adS (rdD (adS s0 rC) rC).2 rC, rC) else rzL (rdD (adS s0 rC) rC).1 kn 12 0 (adS (adS (rdD (adS s0 rC) rC).2 rC) rC) rC := by unfold rlZ; exact Eq.refl _
  have eA : rlA (10 + d) S rM = if fIw 1701606245 S rM = 0 then (if fIw 26990 S rM = 0 then wrX (nI (aSg S rM)) (sSg S rM) rM else rlI (10 + d) (s2L S rM) (rl0 rM)) else rlB (10 + d) (nI (aSg S rM)) (s2L S rM) (rl0 rM) := by unfold rlA; exact Eq.refl _
  have eD : rdD (adS s0 rC) rC = if fIw 1701606245 S rM = 0 then (if fIw 26990 S rM = 0 then (-1, adS s0 rC) else if kNw 0 15 (adS (adS s0 rC) rC) rC = 0 then (-1, adS (adS s0 rC) rC) else ((if rC 102 (Int32.toNatClampNeg (vVa (adS (adS s0 rC) rC) rC)) = 0 then vVa (adS (adS s0 rC) rC) rC else -1), adS (adS s0 rC) rC)) else ((if rC 102 (Int32.toNatClampNeg 16) = 0 then 16 else -1), adS s0 rC) := by
    unfold rdD
    rw [w20, w21]
  have c16 : Int32.toNatClampNeg 16 = 16 := by decide
  have n16 : (16 : Int32) = nI 16 := by decide
  rw [e1, eA, eD]
  have wd : kKd s0 rC (kBg s0 rC) = 1 → jp (adS s0 rC) rC (s2L S rM) (rl0 rM) e (kBh s0 rC (kBg s0 rC)) := fun hk => by
    have q := jp_wd h hk (r' := rM) rfl
    exact jp_ms q rfl rfl (r0o 60 (by decide))
  by_cases y0 : fIw 1701606245 S rM = 0
  · rw [if_pos y0, if_pos y0]
    by_cases y1 : fIw 26990 S rM = 0
    · rw [if_pos y1, if_pos y1, if_pos rfl]
      refine ⟨jw.refl _ _, Or.inl ⟨rfl, rfl, ?_⟩⟩
      show adS s0 rC 101 = nI (aSg S rM)
      rw [ad_101, h.b]
    · rw [if_neg y1, if_neg y1]
      have jw1 := wd (kIw_k (w := 21) (by rw [w21]; exact y1))
      have hnw : kNw 0 15 (adS (adS s0 rC) rC) rC = 0 ↔ rnV 0 15 (adS s0 rC) rC = -1 := by
        unfold rnV
        by_cases y : kNw 0 15 (adS (adS s0 rC) rC) rC = 0
        · rw [if_pos y]; exact ⟨fun _ => rfl, fun _ => y⟩
        · rw [if_neg y]
          refine ⟨fun q => absurd q y, fun q => ?_⟩
          unfold kNw
          rw [if_pos q]
      have eI : rlI (10 + d) (s2L S rM) (rl0 rM) = if okN 0 15 (s2L S rM) (rl0 rM) = 0 then (0, sN 0 15 (s2L S rM) (rl0 rM), rN 0 0 15 (s2L S rM) (rl0 rM)) else rlB (10 + d) (sSg (s2L S rM) (rl0 rM) 63) (sN 0 15 (s2L S rM) (rl0 rM)) (rN 0 0 15 (s2L S rM) (rl0 rM)) := by
        unfold rlI
        rw [okN_sg jw1.B, sN_sg jw1.B, rN_sg jw1.B]
      rw [eI]
      rcases jp_num jw1 0 15 with ⟨a, b, c⟩ | ⟨a, v, dd, b, b1, b2, b3, b4, b5⟩
      · rw [if_pos (hnw.mpr b), if_pos rfl, if_pos a]
        refine ⟨⟨fun _ _ _ => rfl, fun f a' b' c' g => ?_, fun j _ => ⟨?_, ?_⟩, fun j _ => ?_⟩, Or.inl ⟨rfl, rfl, c.symm⟩⟩
        · show rN 0 0 15 _ _ f = _; rw [rN_60 g]; exact r0o f g
        · show rN 0 0 15 _ _ 54 j = _; rw [rN_60 (by decide)]; exact congrFun (r0o 54 (by decide)) j
        · show rN 0 0 15 _ _ 55 j = _; rw [rN_60 (by decide)]; exact congrFun (r0o 55 (by decide)) j
        · show rN 0 0 15 _ _ 56 j = _; rw [rN_60 (by decide)]; exact congrFun (r0o 56 (by decide)) j
      · have nw : ¬ kNw 0 15 (adS (adS s0 rC) rC) rC = 0 := fun q => by rw [hnw, b] at q; exact b1 q
        have vv : vVa (adS (adS s0 rC) rC) rC = v := by
          have b' := b
          unfold rnV at b'
          rw [if_neg nw] at b'
          exact b'
        have na : ¬ okN 0 15 (s2L S rM) (rl0 rM) = 0 := by rw [a]; decide
        rw [if_neg nw, if_neg na, vv, b4 0, c0]
        have z15 : (15 : Int32).toInt = 15 := by decide
        have z0 : (0 : Int32).toInt = 0 := by decide
        have tv := t_ix (x := v) (by omega)
        have vn := t_ixn (x := v) (by omega)
        have vD : v.toNatClampNeg ≤ 16 := by have := b2.2; omega
        have R54 : up2 (rl0 rM) 65 0 v 54 = rM 54 := by rw [up2_nn _ _ _ (by decide)]; exact r0o 54 (by decide)
        have R65 : up2 (rl0 rM) 65 0 v 65 0 = nI v.toNatClampNeg := by rw [up2_ss, vn]
        have RO : ∀ f, ¬ f = 65 → up2 (rl0 rM) 65 0 v f = rM f := fun f g => by rw [up2_nn _ _ _ g]; exact r0o f g
        have di := dup_iff (rC := rC) (R1 := up2 (rl0 rM) 65 0 v) hj vD R54
        have eB : rlB (10 + d) (sSg (s2L S rM) (rl0 rM) 63) (sN 0 15 (s2L S rM) (rl0 rM)) (up2 (rl0 rM) 65 0 v) = if dpF (up2 (rl0 rM) 65 0 v) (nI v.toNatClampNeg) (10 + d - 10) 10 = true then wrX (sSg (s2L S rM) (rl0 rM) 63) (sN 0 15 (s2L S rM) (rl0 rM)) (up2 (rl0 rM) 65 0 v) else rlC (10 + d) (sN 0 15 (s2L S rM) (rl0 rM)) (rl1 (10 + d) (up2 (rl0 rM) 65 0 v)) := by
          unfold rlB
          rw [c0, R65]
        rw [eB]
        have s26 : sN 0 15 (s2L S rM) (rl0 rM) 26 = kn := by rw [sN_n (by decide) (by decide)]; exact h26
        have j2 : jp (adS (adS s0 rC) rC) rC (sN 0 15 (s2L S rM) (rl0 rM)) (up2 (rl0 rM) 65 0 v) e dd := jp_cs (b5 200 0 _ (by decide) (up2_nn _ _ _ (by decide))) rfl rfl rfl
        by_cases z : rC 102 v.toNatClampNeg = 0
        · rw [if_pos z, if_neg b1, if_neg (fun q => di.mp q z)]
          have := rl_B kn nk hkn hk12 d v.toNatClampNeg hd vD j2 s26 RO R65 hj z S b3
          rw [vn] at this
          exact this
        · rw [if_neg z, if_pos rfl, if_pos (di.mpr z)]
          refine ⟨⟨fun _ _ _ => rfl, fun f _ _ _ g => RO f g, fun j _ => ⟨congrFun (RO 54 (by decide)) j, congrFun (RO 55 (by decide)) j⟩, fun j _ => congrFun (RO 56 (by decide)) j⟩, Or.inl ⟨rfl, rfl, ?_⟩⟩
          show adS (adS s0 rC) rC 101 = sSg (s2L S rM) (rl0 rM) 63
          rw [ad_101, jw1.b]
          rfl
  · rw [if_neg y0, if_neg y0, c16]
    have jw1 := wd (kIw_k (w := 20) (by rw [w20]; exact y0))
    have R65 : rl0 rM 65 0 = nI 16 := by unfold rl0; rw [c0, up2_ss]; exact n16
    have di := dup_iff (rC := rC) (R1 := rl0 rM) hj (show 16 ≤ 16 by decide) (r0o 54 (by decide))
    have eB : rlB (10 + d) (nI (aSg S rM)) (s2L S rM) (rl0 rM) = if dpF (rl0 rM) (nI 16) (10 + d - 10) 10 = true then wrX (nI (aSg S rM)) (s2L S rM) (rl0 rM) else rlC (10 + d) (s2L S rM) (rl1 (10 + d) (rl0 rM)) := by
      unfold rlB
      rw [c0, R65]
    rw [eB]
    by_cases z : rC 102 16 = 0
    · rw [if_pos z, if_neg (show ¬ (16 : Int32) = -1 by decide), if_neg (fun q => di.mp q z)]
      have := rl_B kn nk hkn hk12 d 16 hd (by decide) jw1 h26 r0o R65 hj z S rfl
      rw [← n16] at this
      exact this
    · rw [if_neg z, if_pos rfl, if_pos (di.mpr z)]
      refine ⟨z65, Or.inl ⟨rfl, rfl, ?_⟩⟩
      show adS s0 rC 101 = nI (aSg S rM)
      rw [ad_101, h.b]
theorem rt_loop (kn : Int32) (nk : Nat) (hkn : kn.toInt = nk) (hk12 : nk ≤ 12) : ∀ (k n d : Nat) (s0 S : Nat → Int32) (rC rM : Nat → Nat → Int32) (p : Nat), d + k = 10 → n = k + 1 → jp s0 rC S rM e p → S 26 = kn → S 53 = nI d → s0 111 = nI d → jd rC rM nk d →
    jw rC rM (ktC kn k s0 rC).2.2 (rtL n S rM).2.2 ∧ (∀ f, ¬ f = 63 → ¬ f = 64 → ¬ f = 53 → (rtL n S rM).2.1 f = S f) ∧ (((ktC kn k s0 rC).1 = 0 ∧ (rtL n S rM).1 = 0 ∧ (ktC kn k s0 rC).2.1 101 = (rtL n S rM).2.1 64) ∨ (¬ (ktC kn k s0 rC).1 = 0 ∧ ¬ (rtL n S rM).1 = 0 ∧ (rtL n S rM).2.1 64 = S 64 ∧ ∃ d', d' ≤ 10 ∧ (ktC kn k s0 rC).2.1 111 = nI d' ∧ (rtL n S rM).2.1 53 = nI d' ∧ jd (ktC kn k s0 rC).2.2 (rtL n S rM).2.2 nk d'))
  | 0, n, d, s0, S, rC, rM, p, h1, h2, h, h26, h53, h111, hj => by
    subst h2
    have c53 : (sSg S rM) 53 = 10 := by rw [sSg_n (by decide), h53, show d = 10 from by omega]; decide
    have eY : rtL (0 + 1) S rM = wrX (nI (aSg S rM)) (sSg S rM) rM := by
      show (if (sSg S rM) 53 = 10 then wrX (nI (aSg S rM)) (sSg S rM) rM else _) = _
      rw [if_pos c53]
    rw [eY]
    refine ⟨jw.refl _ _, fun f a b _ => ?_, Or.inl ⟨rfl, rfl, ?_⟩⟩
    · show upd (sSg S rM) 64 _ f = S f
      rw [upd_n _ b, sSg_n a]
    · show adS s0 rC 101 = nI (aSg S rM)
      rw [ad_101, h.b]
  | k + 1, n, d, s0, S, rC, rM, p, h1, h2, h, h26, h53, h111, hj => by
    subst h2
    have n53 : ¬ (sSg S rM) 53 = 10 := by
      rw [sSg_n (by decide), h53]
      intro q
      have : d = 10 := nI_jn (by omega) (by omega) (q.trans (by decide))
      omega
    have eln : Int32.toNatClampNeg (10 + (sSg S rM) 53) = 10 + d := by
      rw [sSg_n (by decide), cp_1 h53, ix_nI (by omega)]
    have etA : rtA S rM = rlA (10 + d) S rM := by unfold rtA; rw [eln, rlA_sg h.B]
    have eY : rtL (k + 1 + 1) S rM = if (rlA (10 + d) S rM).1 = 0 then (0, (rlA (10 + d) S rM).2.1, (rlA (10 + d) S rM).2.2) else if vSg (upd (rlA (10 + d) S rM).2.1 53 ((rlA (10 + d) S rM).2.1 53 + 1)) (rlA (10 + d) S rM).2.2 = 59 then rtL (k + 1) (upd (sSg (upd (rlA (10 + d) S rM).2.1 53 ((rlA (10 + d) S rM).2.1 53 + 1)) (rlA (10 + d) S rM).2.2) 63 (sSg (upd (rlA (10 + d) S rM).2.1 53 ((rlA (10 + d) S rM).2.1 53 + 1)) (rlA (10 + d) S rM).2.2 63 + 1)) (rlA (10 + d) S rM).2.2 else rtE (sSg (upd (rlA (10 + d) S rM).2.1 53 ((rlA (10 + d) S rM).2.1 53 + 1)) (rlA (10 + d) S rM).2.2) (rlA (10 + d) S rM).2.2 := by
      have : rtL (k + 1 + 1) S rM = if (sSg S rM) 53 = 10 then wrX (nI (aSg S rM)) (sSg S rM) rM else if (rtA S rM).1 = 0 then (0, (rtA S rM).2.1, (rtA S rM).2.2) else if vSg (rtS S rM) (rtA S rM).2.2 = 59 then rtL (k + 1) (upd (sSg (rtS S rM) (rtA S rM).2.2) 63 (sSg (rtS S rM) (rtA S rM).2.2 63 + 1)) (rtA S rM).2.2 else rtE (sSg (rtS S rM) (rtA S rM).2.2) (rtA S rM).2.2 := by
        rw [rtL]
      rw [this, if_neg n53]
      unfold rtS
      rw [etA]
    have eX : ktC kn (k + 1) s0 rC = if (rlZ kn (adS s0 rC) rC).1 = 0 then (0, (rlZ kn (adS s0 rC) rC).2.1, (rlZ kn (adS s0 rC) rC).2.2) else if kSg 59 (upd (rlZ kn (adS s0 rC) rC).2.1 111 ((rlZ kn (adS s0 rC) rC).2.1 111 + 1)) (rlZ kn (adS s0 rC) rC).2.2 = 0 then (kAe (upd (rlZ kn (adS s0 rC) rC).2.1 111 ((rlZ kn (adS s0 rC) rC).2.1 111 + 1)), upd (rlZ kn (adS s0 rC) rC).2.1 111 ((rlZ kn (adS s0 rC) rC).2.1 111 + 1), (rlZ kn (adS s0 rC) rC).2.2) else ktC kn k (upd (rlZ kn (adS s0 rC) rC).2.1 111 ((rlZ kn (adS s0 rC) rC).2.1 111 + 1)) (rlZ kn (adS s0 rC) rC).2.2 := by
      rw [ktC]
      unfold ktS
      exact Eq.refl _
    rw [eX, eY]
    have ln := rl_A kn nk hkn hk12 d (by omega) h h26 hj
    have f111 : (rlZ kn (adS s0 rC) rC).2.1 111 = nI d := by
      rw [rlZ_N 111 (by decide) (by decide) (by decide), ad_o _ _ (by decide) (by decide) (by decide)]; exact h111
    have fA : ∀ f, ¬ f = 63 → ¬ f = 64 → (rlA (10 + d) S rM).2.1 f = S f := fun f a b => rlA_n a b _ _ _
    generalize rlZ kn (adS s0 rC) rC = X at *
    generalize rlA (10 + d) S rM = Y at *
    have f53 : Y.2.1 53 = nI d := (fA 53 (by decide) (by decide)).trans h53
    rw [f111, f53, nI_1]
    obtain ⟨lw, ln⟩ := ln
    rcases ln with ⟨a, b, c⟩ | ⟨a, b, c, ⟨s0', S', q, l1, l2, l3⟩, l4⟩
    · rw [if_pos a, if_pos b]
      exact ⟨lw, fun f x y _ => fA f x y, Or.inl ⟨rfl, rfl, c⟩⟩
    · rw [if_neg (by rw [a]; decide), if_neg b, l1]
      -- the reader behind the line
      have tB' := l3.B
      have ja : ∀ v : Int32, aSg (upd Y.2.1 53 v) Y.2.2 = aSg S' Y.2.2 := fun v => by
        have : aSg (upd Y.2.1 53 v) Y.2.2 = aSg Y.2.1 Y.2.2 := rfl
        rw [this, l2, aSg_id tB']
      have jv : ∀ v : Int32, vSg (upd Y.2.1 53 v) Y.2.2 = vSg S' Y.2.2 := fun v => by
        have : vSg (upd Y.2.1 53 v) Y.2.2 = vSg Y.2.1 Y.2.2 := rfl
        rw [this, l2, vSg_id tB']
      have sg := jp_sg l3 59 (Or.inr (Or.inr rfl))
      have ks : kSg 59 (upd (adS s0' X.2.2) 111 (nI (d + 1))) X.2.2 = kSg 59 (adS s0' X.2.2) X.2.2 := rfl
      rw [ks, jv]
      by_cases y : vSg S' Y.2.2 = 59
      · rw [if_pos y, if_neg (fun z => sg.1.mp z y)]
        have nx := jp_next l3 59 (Or.inr (Or.inr rfl)) y
        have j62 : Y.2.1 62 = S' 62 := by rw [l2, sSg_n (by decide)]
        have nx2 : jp (upd (adS s0' X.2.2) 111 (nI (d + 1))) X.2.2 (upd (sSg (upd Y.2.1 53 (nI (d + 1))) Y.2.2) 63 (sSg (upd Y.2.1 53 (nI (d + 1))) Y.2.2 63 + 1)) Y.2.2 e (aSg S' Y.2.2 + 1) := by
          refine jp_ms (jp_cs nx rfl rfl rfl) ?_ ?_ rfl
          · rw [upd_n _ (by decide), sSg_n (by decide), upd_n _ (by decide), upd_n _ (by decide), sSg_n (by decide)]; exact j62
          · rw [upd_s, upd_s, sSg_63, sSg_63, ja]
        have ih := rt_loop kn nk hkn hk12 k (k + 1) (d + 1) (upd (adS s0' X.2.2) 111 (nI (d + 1))) (upd (sSg (upd Y.2.1 53 (nI (d + 1))) Y.2.2) 63 (sSg (upd Y.2.1 53 (nI (d + 1))) Y.2.2 63 + 1)) X.2.2 Y.2.2 _ (by omega) rfl nx2 (by rw [upd_n _ (by decide), sSg_n (by decide), upd_n _ (by decide), fA 26 (by decide) (by decide)]; exact h26) (by rw [upd_n _ (by decide), sSg_n (by decide), upd_s]) (upd_s _ _ _) l4
        refine ⟨lw.trans ih.1, fun f x z w => ?_, ?_⟩
        · rw [ih.2.1 f x z w, upd_n _ x, sSg_n x, upd_n _ w]; exact fA f x z
        · rcases ih.2.2 with q1 | ⟨q1, q2, q3, q4⟩
          · exact Or.inl q1
          · refine Or.inr ⟨q1, q2, q3.trans ?_, q4⟩
            rw [upd_n _ (by decide), sSg_n (by decide), upd_n _ (by decide)]; exact c
      · rw [if_neg y, if_pos (sg.1.mpr y)]
        have k0 := kd_0 l3
        have ek : kAe (upd (adS s0' X.2.2) 111 (nI (d + 1))) = if vSg S' Y.2.2 = -1 then 1 else 0 := by
          have : kAe (upd (adS s0' X.2.2) 111 (nI (d + 1))) = kAe (adS s0' X.2.2) := rfl
          rw [this]
          unfold kAe
          rw [ad_103]
          by_cases z : vSg S' Y.2.2 = -1
          · rw [if_pos z, if_pos (k0.mpr z)]
          · rw [if_neg z, if_neg (fun w => z (k0.mp w))]
        have tB2 : tB (upd Y.2.1 53 (nI (d + 1))) := by
          have : tB Y.2.1 := by rw [l2]; exact tB_sg tB'
          exact this
        have eE : rtE (sSg (upd Y.2.1 53 (nI (d + 1))) Y.2.2) Y.2.2 = if vSg S' Y.2.2 = -1 then (1, sSg (upd Y.2.1 53 (nI (d + 1))) Y.2.2, Y.2.2) else wrX (nI (aSg S' Y.2.2)) (sSg (upd Y.2.1 53 (nI (d + 1))) Y.2.2) Y.2.2 := by
          unfold rtE
          rw [vSg_id tB2, jv, aSg_id tB2, ja, sSg_id tB2]
        rw [ek, eE]
        by_cases z : vSg S' Y.2.2 = -1
        · rw [if_pos z, if_pos z]
          refine ⟨lw, fun f x w v => ?_, Or.inr ⟨by show ¬ (1 : Int32) = 0; decide, by show ¬ (1 : Int32) = 0; decide, ?_, d + 1, by omega, ?_, ?_, l4⟩⟩
          · show sSg (upd Y.2.1 53 (nI (d + 1))) Y.2.2 f = S f
            rw [sSg_n x, upd_n _ v]; exact fA f x w
          · show sSg (upd Y.2.1 53 (nI (d + 1))) Y.2.2 64 = S 64
            rw [sSg_n (by decide), upd_n _ (by decide)]; exact c
          · show upd (adS s0' X.2.2) 111 (nI (d + 1)) 111 = _
            rw [upd_s]
          · show sSg (upd Y.2.1 53 (nI (d + 1))) Y.2.2 53 = _
            rw [sSg_n (by decide), upd_s]
        · rw [if_neg z, if_neg z]
          refine ⟨lw, fun f x w v => ?_, Or.inl ⟨rfl, rfl, ?_⟩⟩
          · show upd (sSg (upd Y.2.1 53 (nI (d + 1))) Y.2.2) 64 _ f = S f
            rw [upd_n _ w, sSg_n x, upd_n _ v]; exact fA f x w
          · show upd (adS s0' X.2.2) 111 (nI (d + 1)) 101 = nI (aSg S' Y.2.2)
            rw [upd_n _ (by decide), ad_101, l3.b]
end JRA
