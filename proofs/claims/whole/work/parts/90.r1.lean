/-! the two readers: the keepers of a line -/
theorem jp_cs {s s' : Nat → Int32} {r r' : Nat → Nat → Int32} {S : Nat → Int32} {R : Nat → Nat → Int32} {e p : Nat} (h : jp s r S R e p) (h1 : s' 61 = s 61) (h2 : s' 102 = s 102) (h3 : r' 60 = r 60) : jp s' r' S R e p := ⟨h3.trans h.1, h.2.1, h.2.2.1, h1.trans h.2.2.2.1, h.2.2.2.2.1, h2.trans h.2.2.2.2.2.1, h.2.2.2.2.2.2⟩
theorem jp_ms {s : Nat → Int32} {r : Nat → Nat → Int32} {S S' : Nat → Int32} {R R' : Nat → Nat → Int32} {e p : Nat} (h : jp s r S R e p) (h1 : S' 62 = S 62) (h2 : S' 63 = S 63) (h3 : R' 60 = R 60) : jp s r S' R' e p := ⟨by rw [h3]; exact h.1, by rw [h3]; exact h.2.1, h.2.2.1, h.2.2.2.1, h1.trans h.2.2.2.2.1, h.2.2.2.2.2.1, h2.trans h.2.2.2.2.2.2⟩
theorem nmb_sg {s : Nat → Int32} {r : Nat → Nat → Int32} (h : tB s) : nmb (sSg s r) r = nmb s r := by
  unfold nmb
  rw [aSg_id h]
  rfl
theorem okN_sg {s : Nat → Int32} {r : Nat → Nat → Int32} (h : tB s) (lo hi : Int32) : okN lo hi (sSg s r) r = okN lo hi s r := by
  unfold okN
  rw [nmb_sg h, vSg_id h]
theorem sN_sg {s : Nat → Int32} {r : Nat → Nat → Int32} (h : tB s) (lo hi : Int32) : sN lo hi (sSg s r) r = sN lo hi s r := by
  unfold sN
  rw [nmb_sg h, vSg_id h, okN_sg h, aSg_id h, sSg_id h]
theorem rN_sg {s : Nat → Int32} {r : Nat → Nat → Int32} (h : tB s) (to lo hi : Int32) : rN to lo hi (sSg s r) r = rN to lo hi s r := by
  unfold rN
  rw [nmb_sg h, okN_sg h]
theorem rlD_sg {s : Nat → Int32} {r : Nat → Nat → Int32} (h : tB s) (ln n : Nat) : rlD ln (n + 1) (sSg s r) r = rlD ln (n + 1) s r := by
  have e1 : rlV (sSg s r) r = rlV s r := by unfold rlV; rw [sSg_id h]; rfl
  have e2 : rlS (sSg s r) r = rlS s r := by unfold rlS; rw [sSg_id h]; rfl
  have e3 : rlR (sSg s r) r = rlR s r := by unfold rlR; rw [sSg_id h]; rfl
  have e4 : rl3 ln (sSg s r) r = rl3 ln s r := by unfold rl3; rw [e3]
  show (if rlV (sSg s r) r = 0 then (0, rlS (sSg s r) r, rlR (sSg s r) r) else if dpK (rlR (sSg s r) r) (rlR (sSg s r) r 65 (Int32.toNatClampNeg 1)) (12 * ln) (rlR (sSg s r) r 55 ln).toNatClampNeg 0 = true then wrX (sSg (sSg s r) r 63) (rlS (sSg s r) r) (rlR (sSg s r) r) else if fDi (vSg (rlS (sSg s r) r) (rl3 ln (sSg s r) r)) = 0 then (1, sSg (rlS (sSg s r) r) (rl3 ln (sSg s r) r), rl3 ln (sSg s r) r) else rlD ln n (sSg (rlS (sSg s r) r) (rl3 ln (sSg s r) r)) (rl3 ln (sSg s r) r)) = _
  rw [e1, e2, e3, e4, sSg_id h]
  rfl
theorem ho_dp {t : Nat → Int32} {r : Nat → Nat → Int32} {v : Int32} {b B : Nat} : ∀ (k n i : Nat), i + k = b → k < n → (∀ j, j < b → t j = r 56 (B + j)) → (hoF t v b n i = 0 ↔ dpK r v B k i = false)
  | 0, n, i, h, hn, ht => by
    cases n with
    | zero => omega
    | succ n =>
      unfold hoF dpK
      rw [if_pos (by omega)]
      exact ⟨fun _ => rfl, fun _ => rfl⟩
  | k + 1, n, i, h, hn, ht => by
    cases n with
    | zero => omega
    | succ n =>
      unfold hoF dpK
      rw [if_neg (by omega), ht i (by omega)]
      by_cases c : r 56 (B + i) = v
      · rw [if_pos c, if_pos c]
        exact ⟨fun q => absurd q (by decide), fun q => absurd q (by decide)⟩
      · rw [if_neg c, if_neg c]
        exact ho_dp k n (i + 1) (by omega) (by omega) ht
/-- what the reading of a line leaves as it was -/
def jy (rC rM rC' rM' : Nat → Nat → Int32) (ln D : Nat) : Prop := (∀ f, ¬ f = 102 → ¬ f = 130 + D → rC' f = rC f) ∧ (∀ j, ¬ j = D → rC' 102 j = rC 102 j) ∧ (∀ f, ¬ f = 55 → ¬ f = 56 → ¬ f = 65 → rM' f = rM f) ∧ (∀ j, ¬ j = ln → rM' 55 j = rM 55 j) ∧ (∀ j, j < 12 * ln → rM' 56 j = rM 56 j)
theorem jy.refl (rC rM : Nat → Nat → Int32) (ln D : Nat) : jy rC rM rC rM ln D := ⟨fun _ _ _ => rfl, fun _ _ => rfl, fun _ _ _ _ => rfl, fun _ _ => rfl, fun _ _ => rfl⟩
theorem jy.trans {rC rM rC' rM' rC'' rM'' : Nat → Nat → Int32} {ln D : Nat} (h : jy rC rM rC' rM' ln D) (g : jy rC' rM' rC'' rM'' ln D) : jy rC rM rC'' rM'' ln D := ⟨fun f a b => (g.1 f a b).trans (h.1 f a b), fun j a => (g.2.1 j a).trans (h.2.1 j a), fun f a b c => (g.2.2.1 f a b c).trans (h.2.2.1 f a b c), fun j a => (g.2.2.2.1 j a).trans (h.2.2.2.1 j a), fun j a => (g.2.2.2.2 j a).trans (h.2.2.2.2 j a)⟩
/-- the line that is being read -/
def jc (rC rM : Nat → Nat → Int32) (ln D nk i : Nat) : Prop := rC 102 D = nI i ∧ rM 55 ln = nI i ∧ (∀ j, j < i → rC (130 + D) j = rM 56 (12 * ln + j)) ∧ lnI ln nk rM
section JRK
variable {e : Nat}
theorem rk_loop (kn : Int32) (nk : Nat) (hkn : kn.toInt = nk) (hk12 : nk ≤ 12) (ln D : Nat) (hD : D ≤ 16) : ∀ (k i n : Nat) (s0 S : Nat → Int32) (rC rM : Nat → Nat → Int32) (p : Nat), i + k = 12 → 13 = i + n → jp s0 rC S rM e p → S 26 = kn → jc rC rM ln D nk i →
    jy rC rM (rzL (nI D) kn k i (adS s0 rC) rC).2.2 (rlD ln n S rM).2.2 ln D ∧ (((rzL (nI D) kn k i (adS s0 rC) rC).1 = 0 ∧ (rlD ln n S rM).1 = 0 ∧ (rzL (nI D) kn k i (adS s0 rC) rC).2.1 101 = (rlD ln n S rM).2.1 64) ∨ ((rzL (nI D) kn k i (adS s0 rC) rC).1 = 1 ∧ ¬ (rlD ln n S rM).1 = 0 ∧ (rlD ln n S rM).2.1 64 = S 64 ∧ ∃ i' s0' S' q, (rzL (nI D) kn k i (adS s0 rC) rC).2.1 = adS s0' (rzL (nI D) kn k i (adS s0 rC) rC).2.2 ∧ (rlD ln n S rM).2.1 = sSg S' (rlD ln n S rM).2.2 ∧ jp s0' (rzL (nI D) kn k i (adS s0 rC) rC).2.2 S' (rlD ln n S rM).2.2 e q ∧ (1 ≤ i' ∧ i' ≤ 12) ∧ jc (rzL (nI D) kn k i (adS s0 rC) rC).2.2 (rlD ln n S rM).2.2 ln D nk i'))
  | k, i, 0, s0, S, rC, rM, p, h1, h2, _, _, _ => by omega
  | k, i, n + 1, s0, S, rC, rM, p, h1, h2, h, h26, hc => by
    have tB0 := h.B
    obtain ⟨hc1, hc2, hc3, hc4⟩ := hc
    have hi : i ≤ 12 := by omega
    have cnt : (rM 55 ln).toNatClampNeg = i := by rw [hc2]; exact ix_nI (by omega)
    have hnum := jp_num h 0 (kn - 1)
    have eV : rlV S rM = okN 0 (kn - 1) S rM := by unfold rlV; rw [okN_sg tB0, h26]
    have eS : rlS S rM = sN 0 (kn - 1) S rM := by unfold rlS; rw [sN_sg tB0, h26]
    have eR : rlR S rM = rN 1 0 (kn - 1) S rM := by unfold rlR; rw [rN_sg tB0, h26]
    have yR : jy rC rM rC (rlR S rM) ln D := ⟨fun _ _ _ => rfl, fun _ _ => rfl, fun f _ _ c => rlR_n c S rM, fun j _ => congrFun (rlR_n (by decide) S rM) j, fun j _ => congrFun (rlR_n (by decide) S rM) j⟩
    have hnw : kNw 0 (kn - 1) (adS s0 rC) rC = 0 ↔ rnV 0 (kn - 1) s0 rC = -1 := by
      unfold rnV
      by_cases y : kNw 0 (kn - 1) (adS s0 rC) rC = 0
      · rw [if_pos y]; exact ⟨fun _ => rfl, fun _ => y⟩
      · rw [if_neg y]
        refine ⟨fun q => absurd q y, fun q => ?_⟩
        unfold kNw
        rw [if_pos q]
    -- the reference's step, once the number is read
    have eD : rlD ln (n + 1) S rM = if rlV S rM = 0 then (0, rlS S rM, rlR S rM) else if dpK (rlR S rM) (rlR S rM 65 (Int32.toNatClampNeg 1)) (12 * ln) (rlR S rM 55 ln).toNatClampNeg 0 = true then wrX (sSg S rM 63) (rlS S rM) (rlR S rM) else if fDi (vSg (rlS S rM) (rl3 ln S rM)) = 0 then (1, sSg (rlS S rM) (rl3 ln S rM), rl3 ln S rM) else rlD ln n (sSg (rlS S rM) (rl3 ln S rM)) (rl3 ln S rM) := rfl
    have r55 : rlR S rM 55 = rM 55 := rlR_n (by decide) S rM
    have r56 : rlR S rM 56 = rM 56 := rlR_n (by decide) S rM
    rw [eD, r55, cnt]
    rcases hnum with ⟨a, b, c⟩ | ⟨a, v, d, b, b1, b2, b3, b4, b5⟩
    · -- no number
      rw [if_pos (eV.trans a)]
      have eX : rzL (nI D) kn k i (adS s0 rC) rC = (0, adS s0 rC, rC) := by
        cases k with
        | zero => rfl
        | succ k => unfold rzL; rw [if_pos (hnw.mpr b)]
      rw [eX]
      exact ⟨yR, Or.inl ⟨rfl, rfl, by rw [eS]; exact c.symm⟩⟩
    · have nz : ¬ rlV S rM = 0 := by rw [eV, a]; decide
      have e65 : rlR S rM 65 (Int32.toNatClampNeg 1) = v := by rw [eR, b4 1, up2_ss]
      rw [if_neg nz, e65]
      have cdp : dpK (rlR S rM) v (12 * ln) i 0 = dpK rM v (12 * ln) i 0 := by
        have : ∀ n i, dpK (rlR S rM) v (12 * ln) n i = dpK rM v (12 * ln) n i := by
          intro n
          induction n with
          | zero => intro i; rfl
          | succ n ih => intro i; unfold dpK; rw [r56, ih]
        exact this i 0
      rw [cdp]
      have sg63 : sSg S rM 63 = adS s0 rC 101 := by rw [ad_101, h.b]; rfl
      by_cases dup : dpK rM v (12 * ln) i 0 = true
      · rw [if_pos dup]
        have eX : rzL (nI D) kn k i (adS s0 rC) rC = (0, adS s0 rC, rC) := by
          cases k with
          | zero => rfl
          | succ k =>
            have vv : vVa (adS s0 rC) rC = v := by
              unfold rnV at b
              rw [if_neg (fun q => by rw [hnw] at q; unfold rnV at q; rw [b] at q; exact b1 q)] at b
              exact b
            have hh : ¬ hoV (nI D) v rC = 0 := by
              unfold hoV
              rw [ix_nI (by omega), hc1, ix_nI (by omega), ho_dp (r := rM) (B := 12 * ln) i (1 + i) 0 (by omega) (by omega) hc3, dup]
              decide
            unfold rzL
            rw [if_neg (fun q => by rw [hnw, b] at q; exact b1 q), vv, if_neg hh]
        rw [eX]
        exact ⟨yR, Or.inl ⟨rfl, rfl, sg63.symm⟩⟩
      · have dup' : dpK rM v (12 * ln) i 0 = false := by simpa using dup
        rw [if_neg dup]
        have l3 : lnI ln nk (rl3 ln S rM) := (lnI_3 hc4 (by rw [h26]; exact hkn) hk12 nz (by rw [e65, r55, cnt, cdp]; exact dup')).1
        have e55 : rl3 ln S rM 55 ln = nI (i + 1) := by
          unfold rl3
          rw [up2_ss, r55, hc2, nI_1]
        have le := lnI_le l3
        rw [e55, ix_nI (by omega)] at le
        have hkp : ∃ k', k = k' + 1 := ⟨k - 1, by omega⟩
        obtain ⟨k', rfl⟩ := hkp
        have vv : vVa (adS s0 rC) rC = v := by
          have b' := b
          unfold rnV at b'
          rw [if_neg (fun q => by rw [hnw, b] at q; exact b1 q)] at b'
          exact b'
        have hh : hoV (nI D) v rC = 0 := by
          unfold hoV
          rw [ix_nI (by omega), hc1, ix_nI (by omega), ho_dp (r := rM) (B := 12 * ln) i (1 + i) 0 (by omega) (by omega) hc3]
          exact dup'
        have eU : rzU (nI D) i (adS s0 rC) rC = up2 (up2 rC (130 + D) i v) 102 D (nI (i + 1)) := by
          unfold rzU
          rw [ix_nI (by omega), vv, nI_1]
        have e3 : rl3 ln S rM = up2 (up2 (up2 rM 65 1 v) 56 (12 * ln + i) v) 55 ln (nI (i + 1)) := by
          unfold rl3
          rw [e65, r55, hc2, ix_nI (by omega), nI_1, eR, b4 1, c1]
        have eX : rzL (nI D) kn (k' + 1) i (adS s0 rC) rC = if kAn (adS (adS s0 rC) (rzU (nI D) i (adS s0 rC) rC)) = 0 then (1, adS (adS s0 rC) (rzU (nI D) i (adS s0 rC) rC), rzU (nI D) i (adS s0 rC) rC) else rzL (nI D) kn k' (i + 1) (adS (adS s0 rC) (rzU (nI D) i (adS s0 rC) rC)) (rzU (nI D) i (adS s0 rC) rC) := by
          show (if kNw 0 (kn - 1) (adS s0 rC) rC = 0 then _ else _) = _
          rw [if_neg (fun q => by rw [hnw, b] at q; exact b1 q), vv, if_pos hh]
        rw [eX]
        have j60 : rzU (nI D) i (adS s0 rC) rC 60 = rC 60 := by rw [eU, up2_nn _ _ _ (by decide), up2_nn _ _ _ (by omega)]
        have m60 : rl3 ln S rM 60 = rM 60 := by rw [e3, up2_nn _ _ _ (by decide), up2_nn _ _ _ (by decide), up2_nn _ _ _ (by decide)]
        have jn : jp (adS s0 rC) (rzU (nI D) i (adS s0 rC) rC) (rlS S rM) (rl3 ln S rM) e d := by
          rw [eS]
          exact jp_cs (b5 200 0 (rl3 ln S rM) (by decide) m60) rfl rfl j60
        have yU : jy rC rM (rzU (nI D) i (adS s0 rC) rC) (rl3 ln S rM) ln D := by
          rw [eU, e3]
          refine ⟨fun f x y => ?_, fun j x => ?_, fun f x y z => ?_, fun j x => ?_, fun j x => ?_⟩
          · rw [up2_nn _ _ _ x, up2_nn _ _ _ y]
          · rw [up2_sn _ _ _ x, up2_nn _ _ _ (by omega)]
          · rw [up2_nn _ _ _ x, up2_nn _ _ _ y, up2_nn _ _ _ z]
          · rw [up2_sn _ _ _ x, up2_nn _ _ _ (by decide), up2_nn _ _ _ (by decide)]
          · rw [up2_nn _ _ _ (by decide), up2_sn _ _ _ (by omega), up2_nn _ _ _ (by decide)]
        have jc' : jc (rzU (nI D) i (adS s0 rC) rC) (rl3 ln S rM) ln D nk (i + 1) := by
          refine ⟨by rw [eU, up2_ss], e55, fun j hj => ?_, l3⟩
          rw [eU, e3, up2_nn _ _ _ (by omega), up2_nn (f := 55) (g := 56) _ _ _ (by decide)]
          by_cases y : j = i
          · subst y; rw [up2_ss, up2_ss]
          · rw [up2_sn _ _ _ y, up2_sn _ _ _ (by omega), up2_nn (f := 65) (g := 56) _ _ _ (by decide)]
            exact hc3 j (by omega)
        have s26 : rlS S rM 26 = kn := by rw [eS, sN_n (by decide) (by decide)]; exact h26
        have s64 : rlS S rM 64 = S 64 := by rw [eS]; exact b3
        have kd := kd_2 jn
        have ea : kAn (adS (adS s0 rC) (rzU (nI D) i (adS s0 rC) rC)) = 0 ↔ fDi (vSg (rlS S rM) (rl3 ln S rM)) = 0 := by
          unfold kAn
          rw [ad_103]
          by_cases y : fDi (vSg (rlS S rM) (rl3 ln S rM)) = 0
          · rw [if_neg (fun q => (kd.mp q) y)]; exact ⟨fun _ => y, fun _ => rfl⟩
          · rw [if_pos (kd.mpr y)]; exact ⟨fun q => absurd q (by decide), fun q => absurd q y⟩
        by_cases y : fDi (vSg (rlS S rM) (rl3 ln S rM)) = 0
        · rw [if_pos (ea.mpr y), if_pos y]
          exact ⟨yU, Or.inr ⟨rfl, by show ¬ (1 : Int32) = 0; decide, s64, i + 1, adS s0 rC, rlS S rM, d, rfl, rfl, jn, ⟨by omega, by omega⟩, jc'⟩⟩
        · rw [if_neg (fun q => y (ea.mp q)), if_neg y]
          obtain ⟨m, rfl⟩ : ∃ m, n = m + 1 := ⟨n - 1, by omega⟩
          rw [rlD_sg jn.B]
          have ih := rk_loop kn nk hkn hk12 ln D hD k' (i + 1) (m + 1) (adS s0 rC) (rlS S rM) (rzU (nI D) i (adS s0 rC) rC) (rl3 ln S rM) d (by omega) (by omega) jn s26 jc'
          refine ⟨yU.trans ih.1, ?_⟩
          rcases ih.2 with q | ⟨q1, q2, q3, q4⟩
          · exact Or.inl q
          · exact Or.inr ⟨q1, q2, q3.trans s64, q4⟩
end JRK
