/-! the two readers: a line of the turns -/
theorem rlD_n {f : Nat} (h1 : ¬ f = 63) (h2 : ¬ f = 64) (ln : Nat) : ∀ (n : Nat) (s : Nat → Int32) (r : Nat → Nat → Int32), (rlD ln n s r).2.1 f = s f
  | 0, _, _ => rfl
  | n + 1, s, r => by
    have eS : rlS s r f = s f := by unfold rlS; rw [sN_n h1 h2, sSg_n h1]
    unfold rlD
    split
    · exact eS
    · split
      · show upd (rlS s r) 64 _ f = s f
        rw [upd_n _ h2]; exact eS
      · split
        · show sSg (rlS s r) _ f = s f
          rw [sSg_n h1]; exact eS
        · rw [rlD_n h1 h2 ln n, sSg_n h1]; exact eS
theorem rlC_n {f : Nat} (h1 : ¬ f = 63) (h2 : ¬ f = 64) (ln : Nat) (s : Nat → Int32) (r : Nat → Nat → Int32) : (rlC ln s r).2.1 f = s f := by
  unfold rlC
  split
  · rw [rlD_n h1 h2, upd_n _ h1, sSg_n h1]
  · show upd (sSg s r) 64 _ f = s f
    rw [upd_n _ h2, sSg_n h1]
theorem rlB_n {f : Nat} (h1 : ¬ f = 63) (h2 : ¬ f = 64) (ln : Nat) (pl : Int32) (s : Nat → Int32) (r : Nat → Nat → Int32) : (rlB ln pl s r).2.1 f = s f := by
  unfold rlB
  split
  · show upd s 64 pl f = s f
    rw [upd_n _ h2]
  · exact rlC_n h1 h2 ln s _
theorem rlA_n {f : Nat} (h1 : ¬ f = 63) (h2 : ¬ f = 64) (ln : Nat) (s : Nat → Int32) (r : Nat → Nat → Int32) : (rlA ln s r).2.1 f = s f := by
  have e2 : s2L s r f = s f := by unfold s2L; rw [upd_n _ h1, sSg_n h1]
  unfold rlA
  split
  · split
    · show upd (sSg s r) 64 _ f = s f
      rw [upd_n _ h2, sSg_n h1]
    · unfold rlI
      split
      · show sN 0 15 _ _ f = s f
        rw [sN_n h1 h2, sSg_n h1]; exact e2
      · rw [rlB_n h1 h2, sN_n h1 h2, sSg_n h1]; exact e2
  · rw [rlB_n h1 h2]; exact e2
theorem rlA_sg {s : Nat → Int32} {r : Nat → Nat → Int32} (h : tB s) (ln : Nat) : rlA ln (sSg s r) r = rlA ln s r := by
  have e : s2L (sSg s r) r = s2L s r := by unfold s2L; rw [sSg_id h]
  unfold rlA
  rw [fIw_sg _ h, fIw_sg _ h, aSg_id h, sSg_id h, e]
theorem dpF_iff (r : Nat → Nat → Int32) (d : Int32) : ∀ n k, dpF r d n k = true ↔ ∃ j, k ≤ j ∧ j < k + n ∧ r 54 j = d
  | 0, k => ⟨fun q => absurd q (by unfold dpF; decide), fun ⟨j, a, b, _⟩ => by omega⟩
  | n + 1, k => by
    unfold dpF
    by_cases c : r 54 k = d
    · rw [if_pos c]; exact ⟨fun _ => ⟨k, Nat.le_refl _, by omega, c⟩, fun _ => rfl⟩
    · rw [if_neg c, dpF_iff r d n (k + 1)]
      constructor
      · rintro ⟨j, a, b, q⟩; exact ⟨j, by omega, by omega, q⟩
      · rintro ⟨j, a, b, q⟩
        have : ¬ j = k := fun y => c (by rw [← y]; exact q)
        exact ⟨j, by omega, by omega, q⟩
/-- the lines that have been read -/
def jdL (rC rM : Nat → Nat → Int32) (nk k dd : Nat) : Prop := dd ≤ 16 ∧ rM 54 (10 + k) = nI dd ∧ rC 102 dd = rM 55 (10 + k) ∧ (1 ≤ (rM 55 (10 + k)).toInt ∧ (rM 55 (10 + k)).toInt ≤ 12) ∧ ∀ i, i < (rM 55 (10 + k)).toNatClampNeg → rC (130 + dd) i = rM 56 (12 * (10 + k) + i) ∧ 0 ≤ (rM 56 (12 * (10 + k) + i)).toInt ∧ (rM 56 (12 * (10 + k) + i)).toInt < nk
def jd (rC rM : Nat → Nat → Int32) (nk d : Nat) : Prop := (∀ k, k < d → ∃ dd, jdL rC rM nk k dd) ∧ (∀ k q, k < d → q < d → rM 54 (10 + k) = rM 54 (10 + q) → k = q) ∧ (∀ dd, dd ≤ 16 → (∀ k, k < d → ¬ rM 54 (10 + k) = nI dd) → rC 102 dd = 0)
/-- what the reading of the lines leaves as it was -/
def jw (rC rM rC' rM' : Nat → Nat → Int32) : Prop := (∀ f, ¬ f = 102 → ¬ (130 ≤ f ∧ f < 147) → rC' f = rC f) ∧ (∀ f, ¬ f = 54 → ¬ f = 55 → ¬ f = 56 → ¬ f = 65 → rM' f = rM f) ∧ (∀ j, j < 10 → rM' 54 j = rM 54 j ∧ rM' 55 j = rM 55 j) ∧ (∀ j, j < 120 → rM' 56 j = rM 56 j)
theorem jw.refl (rC rM : Nat → Nat → Int32) : jw rC rM rC rM := ⟨fun _ _ _ => rfl, fun _ _ _ _ _ => rfl, fun _ _ => ⟨rfl, rfl⟩, fun _ _ => rfl⟩
theorem jw.trans {rC rM rC' rM' rC'' rM'' : Nat → Nat → Int32} (h : jw rC rM rC' rM') (g : jw rC' rM' rC'' rM'') : jw rC rM rC'' rM'' := ⟨fun f a b => (g.1 f a b).trans (h.1 f a b), fun f a b c d => (g.2.1 f a b c d).trans (h.2.1 f a b c d), fun j a => ⟨(g.2.2.1 j a).1.trans (h.2.2.1 j a).1, (g.2.2.1 j a).2.trans (h.2.2.1 j a).2⟩, fun j a => (g.2.2.2 j a).trans (h.2.2.2 j a)⟩
def jX1 (kn : Int32) (nk d e : Nat) (S : Nat → Int32) (rC rM : Nat → Nat → Int32) (X Y : FX) : Prop := jw rC rM X.2.2 Y.2.2 ∧ ((X.1 = 0 ∧ Y.1 = 0 ∧ X.2.1 101 = Y.2.1 64) ∨ (X.1 = 1 ∧ ¬ Y.1 = 0 ∧ Y.2.1 64 = S 64 ∧ (∃ s0' S' q, X.2.1 = adS s0' X.2.2 ∧ Y.2.1 = sSg S' Y.2.2 ∧ jp s0' X.2.2 S' Y.2.2 e q) ∧ jd X.2.2 Y.2.2 nk (d + 1)))
section JRL
variable {e : Nat}
theorem jd_used {rC rM : Nat → Nat → Int32} {nk d : Nat} (h : jd rC rM nk d) {D : Nat} (hD : D ≤ 16) : rC 102 D = 0 ↔ ∀ k, k < d → ¬ rM 54 (10 + k) = nI D := by
  constructor
  · intro z k hk q
    obtain ⟨dd, g⟩ := h.1 k hk
    have : dd = D := nI_jn (by have := g.1; omega) (by omega) (g.2.1.symm.trans q)
    subst this
    have g3 := g.2.2.1
    rw [z] at g3
    have g4 := g.2.2.2.1.1
    rw [← g3] at g4
    exact absurd g4 (by decide)
  · exact h.2.2 D hD
theorem rl_B (kn : Int32) (nk : Nat) (hkn : kn.toInt = nk) (hk12 : nk ≤ 12) (d D : Nat) (hd : d < 10) (hD : D ≤ 16) {s1 S1 : Nat → Int32} {rC rM R1 : Nat → Nat → Int32} {q : Nat} (h : jp s1 rC S1 R1 e q) (h26 : S1 26 = kn) (hR : ∀ f, ¬ f = 65 → R1 f = rM f) (h65 : R1 65 0 = nI D) (hj : jd rC rM nk d) (h0 : rC 102 D = 0) (S : Nat → Int32) (h64 : S1 64 = S 64) : jX1 kn nk d e S rC rM (if kSg 58 (adS s1 rC) rC = 0 then (0, adS s1 rC, rC) else rzL (nI D) kn 12 0 (adS (adS s1 rC) rC) rC) (rlC (10 + d) S1 (rl1 (10 + d) R1)) := by
  have r1o : ∀ f, ¬ f = 54 → ¬ f = 55 → rl1 (10 + d) R1 f = R1 f := fun f a b => by unfold rl1; rw [up2_nn _ _ _ b, up2_nn _ _ _ a]
  have r54 : rl1 (10 + d) R1 54 (10 + d) = nI D := by unfold rl1; rw [up2_n _ _ _ _ (by decide), up2_ss, c0, h65]
  have r54o : ∀ j, ¬ j = 10 + d → rl1 (10 + d) R1 54 j = rM 54 j := fun j hjj => by unfold rl1; rw [up2_n _ _ _ _ (by decide), up2_sn _ _ _ hjj, hR 54 (by decide)]
  have r55o : ∀ j, ¬ j = 10 + d → rl1 (10 + d) R1 55 j = rM 55 j := fun j hjj => by unfold rl1; rw [up2_sn _ _ _ hjj, up2_nn _ _ _ (by decide), hR 55 (by decide)]
  have r55 : rl1 (10 + d) R1 55 (10 + d) = nI 0 := by unfold rl1; rw [up2_ss]; decide
  have w1 : jw rC rM rC (rl1 (10 + d) R1) := ⟨fun _ _ _ => rfl, fun f a b c g => (r1o f a b).trans (hR f g), fun j hjj => ⟨r54o j (by omega), r55o j (by omega)⟩, fun j _ => by rw [r1o 56 (by decide) (by decide), hR 56 (by decide)]⟩
  have h' : jp s1 rC S1 (rl1 (10 + d) R1) e q := jp_ms h rfl rfl (r1o 60 (by decide) (by decide))
  have sg := jp_sg h' 58 (Or.inr (Or.inl rfl))
  unfold rlC
  by_cases y : vSg S1 (rl1 (10 + d) R1) = 58
  · rw [if_pos y, if_neg (fun z => sg.1.mp z y)]
    have nx := jp_next h' 58 (Or.inr (Or.inl rfl)) y
    have lp := rk_loop kn nk hkn hk12 (10 + d) D hD 12 0 13 (adS s1 rC) (upd (sSg S1 (rl1 (10 + d) R1)) 63 (sSg S1 (rl1 (10 + d) R1) 63 + 1)) rC (rl1 (10 + d) R1) _ rfl rfl nx h26 ⟨by rw [h0]; decide, r55, fun j hjj => by omega, lnI_0 _ _ _⟩
    generalize rzL (nI D) kn 12 0 (adS (adS s1 rC) rC) rC = X at *
    generalize rlD (10 + d) 13 (upd (sSg S1 (rl1 (10 + d) R1)) 63 (sSg S1 (rl1 (10 + d) R1) 63 + 1)) (rl1 (10 + d) R1) = Y at *
    obtain ⟨jy0, lp⟩ := lp
    have w2 : jw rC rM X.2.2 Y.2.2 := by
      refine ⟨fun f a b => jy0.1 f a (by omega), fun f a b c g => ?_, fun j hjj => ⟨?_, ?_⟩, fun j hjj => ?_⟩
      · rw [jy0.2.2.1 f b c g]; exact w1.2.1 f a b c g
      · rw [jy0.2.2.1 54 (by decide) (by decide) (by decide)]; exact (w1.2.2.1 j hjj).1
      · rw [jy0.2.2.2.1 j (by omega)]; exact (w1.2.2.1 j hjj).2
      · rw [jy0.2.2.2.2 j (by omega)]; exact w1.2.2.2 j hjj
    refine ⟨w2, ?_⟩
    rcases lp with ⟨a, b, c⟩ | ⟨a, b, c, i', s0', S', q', l1, l2, l3, l4, l5⟩
    · exact Or.inl ⟨a, b, c⟩
    · refine Or.inr ⟨a, b, c.trans h64, ⟨s0', S', q', l1, l2, l3⟩, ?_⟩
      have m54 : Y.2.2 54 = rl1 (10 + d) R1 54 := jy0.2.2.1 54 (by decide) (by decide) (by decide)
      have n0 := (jd_used hj hD).mp h0
      have d54 : ∀ k, k < d → Y.2.2 54 (10 + k) = rM 54 (10 + k) := fun k hk => by rw [m54]; exact r54o _ (by omega)
      have d55 : ∀ k, k < d → Y.2.2 55 (10 + k) = rM 55 (10 + k) := fun k hk => by rw [jy0.2.2.2.1 _ (by omega)]; exact r55o _ (by omega)
      have D54 : Y.2.2 54 (10 + d) = nI D := by rw [m54]; exact r54
      refine ⟨fun k hk => ?_, fun k z hk hz qq => ?_, fun dd hdd hno => ?_⟩
      · by_cases kd : k = d
        · subst kd
          refine ⟨D, hD, D54, ?_, ?_, fun i hi => ?_⟩
          · rw [l5.1, l5.2.1]
          · rw [l5.2.1, nI_toInt (by omega)]; omega
          · rw [l5.2.1, ix_nI (by omega)] at hi
            exact ⟨l5.2.2.1 i hi, l5.2.2.2.2.1 i (by rw [l5.2.1, ix_nI (by omega)]; exact hi)⟩
        · obtain ⟨dd, g⟩ := hj.1 k (by omega)
          have ne : ¬ dd = D := fun z => n0 k (by omega) (by rw [← z]; exact g.2.1)
          have t := t_ix (x := rM 55 (10 + k)) (by have := g.2.2.2.1; omega)
          refine ⟨dd, g.1, by rw [d54 k (by omega)]; exact g.2.1, by rw [jy0.2.1 dd ne, d55 k (by omega)]; exact g.2.2.1, by rw [d55 k (by omega)]; exact g.2.2.2.1, fun i hi => ?_⟩
          rw [d55 k (by omega)] at hi
          have b12 := g.2.2.2.1.2
          have e56 : Y.2.2 56 (12 * (10 + k) + i) = rM 56 (12 * (10 + k) + i) := by
            rw [jy0.2.2.2.2 _ (by omega), r1o 56 (by decide) (by decide), hR 56 (by decide)]
          rw [e56, jy0.1 (130 + dd) (by omega) (by omega)]
          exact g.2.2.2.2 i hi
      · by_cases kd : k = d
        · by_cases zd : z = d
          · omega
          · rw [kd, D54, d54 z (by omega)] at qq
            exact absurd qq.symm (n0 z (by omega))
        · by_cases zd : z = d
          · rw [zd, D54, d54 k (by omega)] at qq
            exact absurd qq (n0 k (by omega))
          · rw [d54 k (by omega), d54 z (by omega)] at qq
            exact hj.2.1 k z (by omega) (by omega) qq
      · have ne : ¬ dd = D := fun z => hno d (by omega) (by rw [z]; exact D54)
        rw [jy0.2.1 dd ne]
        exact hj.2.2 dd hdd (fun k hk z => hno k (by omega) (by rw [d54 k hk]; exact z))
  · rw [if_neg y, if_pos (sg.1.mpr y)]
    refine ⟨w1, Or.inl ⟨rfl, rfl, ?_⟩⟩
    show adS s1 rC 101 = nI (aSg S1 (rl1 (10 + d) R1))
    rw [ad_101, h'.b]
theorem dup_iff {rC rM R1 : Nat → Nat → Int32} {nk d D : Nat} (hj : jd rC rM nk d) (hD : D ≤ 16) (hR : R1 54 = rM 54) : dpF R1 (nI D) (10 + d - 10) 10 = true ↔ ¬ rC 102 D = 0 := by
  rw [dpF_iff, jd_used hj hD, hR]
  constructor
  · rintro ⟨j, a, b, q⟩ z
    exact z (j - 10) (by omega) (by rw [show 10 + (j - 10) = j from by omega]; exact q)
  · intro z
    by_cases y : ∃ k, k < d ∧ rM 54 (10 + k) = nI D
    · obtain ⟨k, hk, q⟩ := y
      exact ⟨10 + k, by omega, by omega, q⟩
    · exact absurd (fun k hk q => y ⟨k, hk, q⟩) z
end JRL
