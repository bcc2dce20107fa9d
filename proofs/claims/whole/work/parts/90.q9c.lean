/-! the two readers: the facts of a call -/
theorem c0 : Int32.toNatClampNeg 0 = 0 := by decide
theorem c1 : Int32.toNatClampNeg 1 = 1 := by decide
theorem c2 : Int32.toNatClampNeg 2 = 2 := by decide
theorem c3 : Int32.toNatClampNeg 3 = 3 := by decide
theorem c4 : Int32.toNatClampNeg 4 = 4 := by decide
section JFA
variable {sC sM : Nat → Int32} {rC rM : Nat → Nat → Int32} {e p : Nat}
theorem jp_num (h : jp sC rC sM rM e p) (lo hi : Int32) : (okN lo hi sM rM = 0 ∧ rnV lo hi sC rC = -1 ∧ sN lo hi sM rM 64 = adS sC rC 101) ∨ (okN lo hi sM rM = 1 ∧ ∃ v d, rnV lo hi sC rC = v ∧ ¬ v = -1 ∧ (lo.toInt ≤ v.toInt ∧ v.toInt ≤ hi.toInt) ∧ sN lo hi sM rM 64 = sM 64 ∧ (∀ to, rN to lo hi sM rM = up2 rM 65 (Int32.toNatClampNeg to) v) ∧ ∀ f x r', 104 ≤ f → r' 60 = rM 60 → jp (upd (adS sC rC) f x) rC (sN lo hi sM rM) r' e d) := by
  rcases jp_n h lo hi with ⟨a, b⟩ | ⟨a, a0, b, c, d, dle, fd⟩
  · left
    refine ⟨a, b, ?_⟩
    rw [ad_101, h.b]
    unfold sN
    by_cases y : fDi (vSg sM rM) = 0
    · rw [if_pos y]; rfl
    · rw [if_neg y, if_pos a]; rfl
  · right
    refine ⟨a, (nmb sM rM).2.2, (nmb sM rM).2.1, b, fun y => ?_, c, ?_, fun to => ?_, fun f x r' hf hr => ?_⟩
    · rw [y] at a0; exact absurd a0 (by decide)
    · unfold sN
      rw [fd, a, if_neg (by decide), if_neg (by decide)]; rfl
    · unfold rN
      rw [a, if_neg (by decide)]
    · have q := h.2.2.1
      refine ⟨by rw [hr]; exact h.1, by rw [hr]; exact h.2.1, ⟨q.1, dle⟩, ?_, ?_, ?_, ?_⟩
      · show (if 61 = f then x else adS sC rC 61) = _
        rw [if_neg (by omega), ad_o _ _ (by decide) (by decide) (by decide)]; exact h.2.2.2.1
      · rw [sN_n (by decide) (by decide)]; exact h.2.2.2.2.1
      · show (if 102 = f then x else adS sC rC 102) = _
        rw [if_neg (by omega), ad_102, d]
      · unfold sN
        rw [fd, a, if_neg (by decide), if_neg (by decide)]; rfl
/-- behind a word -/
theorem jp_wd (h : jp sC rC sM rM e p) (hk : kKd sC rC (kBg sC rC) = 1) {r' : Nat → Nat → Int32} (hr : r' 60 = rM 60) : jp (adS sC rC) rC (upd (sSg sM rM) 63 (nI (aWe (sSg sM rM) r'))) r' e (kBh sC rC (kBg sC rC)) := by
  have q := h.2.2.1
  have bb := h.be
  have hW : aWe (sSg sM rM) r' = wen (rM 60) e (1 + e) (aSg sM rM) := by
    unfold aWe
    have te : tE (sSg sM rM) = e := h.te
    rw [te, hr]
    show wen (rM 60) e (1 + e) (Int32.toNatClampNeg (nI (aSg sM rM))) = _
    rw [ix_nI (by omega)]
  have hB : kBh sC rC (kBg sC rC) = wen (rM 60) e (1 + e) (aSg sM rM) := by
    rw [h.b] at hk ⊢
    unfold kKd at hk
    unfold kBh
    rw [h.tl, h.1] at hk ⊢
    by_cases y : e ≤ aSg sM rM
    · rw [if_pos y] at hk; exact absurd hk (by decide)
    rw [if_neg y] at hk ⊢
    by_cases y2 : fLe (rM 60 (aSg sM rM)) = 0
    · rw [if_pos y2] at hk
      split at hk <;> exact absurd hk (by decide)
    · rw [if_neg y2]
  refine ⟨by rw [hr]; exact h.1, by rw [hr]; exact h.2.1, ⟨q.1, by rw [hB]; exact (wen_le _ _ _ _).2 bb.2⟩, ?_, ?_, rfl, ?_⟩
  · rw [ad_o _ _ (by decide) (by decide) (by decide)]; exact h.2.2.2.1
  · exact h.2.2.2.2.1
  · rw [hW, hB]; rfl
theorem kIw_k {w : Nat} {s : Nat → Int32} {r : Nat → Nat → Int32} (h : ¬ kIw w s r = 0) : s 103 = 1 := by
  unfold kIw at h
  by_cases y : s 103 = 1
  · exact y
  · rw [if_neg y] at h; exact absurd rfl h
/-- the facts that have been read -/
def jf (s : Nat → Int32) (r : Nat → Nat → Int32) : Prop := ((r 66 0 = 0 ↔ s 104 = -1) ∧ (¬ r 66 0 = 0 → s 104 = r 65 0 ∧ s 105 = r 65 1 ∧ j19 (r 65 0) ∧ j19 (r 65 1))) ∧ ((r 66 1 = 0 ↔ s 106 = 0) ∧ s 106 = r 65 2) ∧ ((r 66 2 = 0 ↔ s 107 = -1) ∧ s 107 = r 65 3 ∧ j31 (r 65 3)) ∧ ((r 66 3 = 0 ↔ s 108 = 0) ∧ s 108 = r 65 4) ∧ (r 66 4 = 0 ↔ s 109 = 0)
def jS (sC : Nat → Int32) (rC : Nat → Nat → Int32) (sM : Nat → Int32) (rM : Nat → Nat → Int32) (e : Nat) (X : FS) (Y : FX) : Prop := (X.1 = 0 ∧ Y.1 = 0 ∧ X.2 101 = Y.2.1 64) ∨ (¬ X.1 = 0 ∧ ¬ Y.1 = 0 ∧ ∃ q, jp X.2 rC Y.2.1 Y.2.2 e q ∧ jf X.2 Y.2.2 ∧ Y.2.1 64 = sM 64 ∧ ∃ i, i < 5 ∧ rM 66 i = 0 ∧ Y.2.2 66 = upd (rM 66) i 1)
theorem up2_f (r : Nat → Nat → Int32) (f i : Nat) (x : Int32) : up2 r f i x f = upd (r f) i x := by
  funext j
  rw [up2_e]
  unfold upd
  by_cases y : j = i
  · simp [y]
  · simp [y]
theorem upd_n {s : Nat → Int32} {f g : Nat} (v : Int32) (h : ¬ g = f) : upd s f v g = s g := if_neg h
/-- a fact that is one number -/
theorem jf_num {A s1 : Nat → Int32} {r1 : Nat → Nat → Int32} {q i f : Nat} (hA : jp A rC s1 r1 e q) (lo hi to : Int32) (hf : 104 ≤ f) (hi5 : i < 5) (hz : rM 66 i = 0) (h64 : s1 64 = sM 64) (h66 : r1 66 = upd (rM 66) i 1) (hj : ∀ v : Int32, ¬ v = -1 → lo.toInt ≤ v.toInt ∧ v.toInt ≤ hi.toInt → jf (upd (adS A rC) f v) (up2 r1 65 (Int32.toNatClampNeg to) v)) : jS sC rC sM rM e ((if (rfX f lo hi A rC).1 = 0 then 0 else 1), (rfX f lo hi A rC).2) (nmX to lo hi s1 r1) := by
  have e1 : (rfX f lo hi A rC).1 = if rnV lo hi A rC = -1 then 0 else 1 := by simp only [rfX]
  have e2 : (rfX f lo hi A rC).2 = upd (adS A rC) f (rnV lo hi A rC) := by simp only [rfX]
  have e3 : nmX to lo hi s1 r1 = (okN lo hi s1 r1, sN lo hi s1 r1, rN to lo hi s1 r1) := by simp only [nmX]
  rw [e1, e2, e3]
  unfold jS
  dsimp only
  rcases jp_num hA lo hi with ⟨a, b, c⟩ | ⟨a, v, d, b, b1, b2, b3, b4, b5⟩
  · left
    refine ⟨?_, a, ?_⟩
    · rw [if_pos b, if_pos rfl]
    · rw [upd_n _ (by omega)]
      exact c.symm
  · right
    rw [b, if_neg b1, a, b4]
    refine ⟨by decide, by decide, d, b5 f v _ hf (up2_nn _ _ _ (by decide)), hj v b1 b2, b3.trans h64, i, hi5, hz, ?_⟩
    rw [up2_nn _ _ _ (by decide), h66]
/-- a fact that is a place -/
theorem jf_pl {A s1 : Nat → Int32} {r1 : Nat → Nat → Int32} {q i : Nat} (hA : jp A rC s1 r1 e q) (hi5 : i < 5) (hz : rM 66 i = 0) (h64 : s1 64 = sM 64) (h66 : r1 66 = upd (rM 66) i 1) (hj : ∀ v v' : Int32, ¬ v = -1 → (0 : Int32).toInt ≤ v.toInt ∧ v.toInt ≤ (19 : Int32).toInt → (0 : Int32).toInt ≤ v'.toInt ∧ v'.toInt ≤ (19 : Int32).toInt → jf (upd (adS (upd (adS A rC) 104 v) rC) 105 v') (up2 (up2 r1 65 0 v) 65 1 v')) : jS sC rC sM rM e ((if (rpX A rC).1 = 0 then 0 else 1), (rpX A rC).2) (plX s1 r1) := by
  have e3 : plX s1 r1 = if okN 0 19 s1 r1 = 0 then (0, sN 0 19 s1 r1, rN 0 0 19 s1 r1) else ((if okN 0 19 (sN 0 19 s1 r1) (rN 0 0 19 s1 r1) = 0 then 0 else 1), sN 0 19 (sN 0 19 s1 r1) (rN 0 0 19 s1 r1), rN 1 0 19 (sN 0 19 s1 r1) (rN 0 0 19 s1 r1)) := by unfold plX; exact Eq.refl _
  have e1 : rpX A rC = if rnV 0 19 A rC = -1 then (0, upd (adS A rC) 104 (rnV 0 19 A rC)) else rfX 105 0 19 (upd (adS A rC) 104 (rnV 0 19 A rC)) rC := by unfold rpX; exact Eq.refl _
  rw [e1, e3]
  rcases jp_num hA 0 19 with ⟨a, b, c⟩ | ⟨a, v, d, b, b1, b2, b3, b4, b5⟩
  · rw [if_pos b, if_pos a]
    unfold jS
    dsimp only
    left
    refine ⟨if_pos rfl, rfl, ?_⟩
    rw [upd_n _ (by decide)]
    exact c.symm
  · have h0 : ¬ okN 0 19 s1 r1 = 0 := by rw [a]; decide
    have h1 : ¬ rnV 0 19 A rC = -1 := by rw [b]; exact b1
    rw [if_neg h1, if_neg h0, b4 0, c0, b]
    have w2 := b5 104 v (up2 r1 65 0 v) (by decide) (up2_nn _ _ _ (by decide))
    have f1 : (rfX 105 0 19 (upd (adS A rC) 104 v) rC).1 = if rnV 0 19 (upd (adS A rC) 104 v) rC = -1 then 0 else 1 := by simp only [rfX]
    have f2 : (rfX 105 0 19 (upd (adS A rC) 104 v) rC).2 = upd (adS (upd (adS A rC) 104 v) rC) 105 (rnV 0 19 (upd (adS A rC) 104 v) rC) := by simp only [rfX]
    rw [f1, f2]
    unfold jS
    dsimp only
    rcases jp_num w2 0 19 with ⟨a', b', c'⟩ | ⟨a', v', d', b', b1', b2', b3', b4', b5'⟩
    · left
      refine ⟨?_, if_pos a', ?_⟩
      · rw [if_pos b', if_pos rfl]
      · rw [upd_n _ (by decide)]
        exact c'.symm
    · right
      rw [b', if_neg b1', a', b4' 1, c1]
      refine ⟨by decide, by decide, d', b5' 105 v' _ (by decide) (up2_nn _ _ _ (by decide)), hj v v' b1 b2 b2', (b3'.trans b3).trans h64, i, hi5, hz, ?_⟩
      rw [up2_nn _ _ _ (by decide), up2_nn _ _ _ (by decide), h66]
theorem jf_step (h : jp sC rC sM rM e p) (hf : jf sC rM) (now : Int32) (h1 : sM 1 = now) (hn : 0 ≤ now.toInt ∧ now.toInt ≤ 743) : jS sC rC sM rM e (rdB now (adS sC rC) rC) (rdF sM rM) := by
  have o : ∀ {f : Nat}, ¬ f = 101 → ¬ f = 102 → ¬ f = 103 → adS sC rC f = sC f := fun a b c => ad_o _ _ a b c
  have f104 := o (f := 104) (by decide) (by decide) (by decide)
  have f105 := o (f := 105) (by decide) (by decide) (by decide)
  have f106 := o (f := 106) (by decide) (by decide) (by decide)
  have f107 := o (f := 107) (by decide) (by decide) (by decide)
  have f108 := o (f := 108) (by decide) (by decide) (by decide)
  have f109 := o (f := 109) (by decide) (by decide) (by decide)
  have bad : ∀ {s : Nat → Int32}, s 101 = adS sC rC 101 → jS sC rC sM rM e (0, s) (wrX (nI (aSg sM rM)) (sSg sM rM) rM) := fun {s} hs => Or.inl ⟨rfl, rfl, by show s 101 = nI (aSg sM rM); rw [hs, ad_101, h.b]⟩
  have wd : ∀ {w : Nat}, ¬ kIw w (adS sC rC) rC = 0 → ∀ k : Int32, fFc sM rM = k → jp (adS sC rC) rC (s1F sM rM) (up2 rM 66 (Int32.toNatClampNeg k) 1) e (kBh sC rC (kBg sC rC)) ∧ r1F sM rM = up2 rM 66 (Int32.toNatClampNeg k) 1 := by
    intro w hw k hk
    have e1 : r1F sM rM = up2 rM 66 (Int32.toNatClampNeg k) 1 := by unfold r1F; rw [hk]
    refine ⟨?_, e1⟩
    unfold s1F
    rw [e1]
    exact jp_wd h (kIw_k hw) (up2_nn _ _ _ (by decide))
  obtain ⟨⟨g0a, g0b⟩, ⟨g1a, g1b⟩, ⟨g2a, g2b, g2c⟩, ⟨g3a, g3b⟩, g4⟩ := hf
  unfold rdB rdF fFc
  rw [jp_w12 h, jp_w13 h, jp_w14 h, jp_w15 h, jp_w16 h]
  have s64 : s1F sM rM 64 = sM 64 := rfl
  have s61 : s1F sM rM 1 = now := h1
  by_cases y0 : fIw 24948 sM rM = 0
  · rw [if_pos y0, if_pos y0]
    by_cases y1 : fIw 1751738216 sM rM = 0
    · rw [if_pos y1, if_pos y1]
      by_cases y2 : fIw 495690081125 sM rM = 0
      · rw [if_pos y2, if_pos y2]
        by_cases y3 : fIw 1835102827 sM rM = 0
        · rw [if_pos y3, if_pos y3]
          by_cases y4 : fIw 469786780261 sM rM = 0
          · rw [if_pos y4, if_pos y4, if_pos rfl]
            exact bad rfl
          · have hk : fFc sM rM = 4 := by unfold fFc; rw [if_pos y0, if_pos y1, if_pos y2, if_pos y3, if_neg y4]
            have w := wd (w := 16) (by rw [jp_w16 h]; exact y4) 4 hk
            rw [if_neg y4, if_neg y4, if_neg (show ¬ (4 : Int32) = -1 by decide), c4, f109]
            by_cases z : rM 66 4 = 0
            · rw [if_pos (g4.mp z), if_pos z]
              right
              refine ⟨by show ¬ (1 : Int32) = 0; decide, by show ¬ (1 : Int32) = 0; decide, kBh sC rC (kBg sC rC), ?_⟩
              show jp (upd (adS sC rC) 109 1) rC (s1F sM rM) (r1F sM rM) e _ ∧ jf (upd (adS sC rC) 109 1) (r1F sM rM) ∧ s1F sM rM 64 = sM 64 ∧ ∃ i, i < 5 ∧ rM 66 i = 0 ∧ r1F sM rM 66 = upd (rM 66) i 1
              rw [w.2, c4]
              have w1 := w.1
              rw [c4] at w1
              refine ⟨⟨w1.1, w1.2.1, w1.2.2.1, w1.2.2.2.1, w1.2.2.2.2.1, w1.2.2.2.2.2.1, w1.2.2.2.2.2.2⟩, ?_, rfl, 4, by decide, z, up2_f _ _ _ _⟩
              unfold jf
              simp [up2_e, upd, f104, f105, f106, f107, f108]
              exact ⟨⟨g0a, g0b⟩, ⟨g1a, g1b⟩, ⟨g2a, g2b, g2c⟩, g3a, g3b⟩
            · rw [if_neg (fun q => z (g4.mpr q)), if_neg z]
              exact bad rfl
        · have hk : fFc sM rM = 3 := by unfold fFc; rw [if_pos y0, if_pos y1, if_pos y2, if_neg y3]
          have w := wd (w := 15) (by rw [jp_w15 h]; exact y3) 3 hk
          rw [if_neg y3, if_neg y3, if_neg (show ¬ (3 : Int32) = -1 by decide), c3, f108]
          by_cases z : rM 66 3 = 0
          · rw [if_pos (g3a.mp z), if_pos z, w.2, c3]
            have w1 := w.1
            rw [c3] at w1
            show jS sC rC sM rM e _ (nmX 4 1 7 (s1F sM rM) (up2 rM 66 3 1))
            refine jf_num w1 1 7 4 (by decide) (i := 3) (by decide) z s64 (up2_f _ _ _ _) (fun v b1 b2 => ?_)
            rw [c4]
            have vn : ¬ v = 0 := fun q => by rw [q] at b2; exact absurd b2.1 (by decide)
            unfold jf
            simp [up2_e, upd, ad_o, f104, f105, f106, f107, f109, vn]
            exact ⟨⟨g0a, g0b⟩, ⟨g1a, g1b⟩, ⟨g2a, g2b, g2c⟩, g4⟩
          · rw [if_neg (fun q => z (g3a.mpr q)), if_neg z]
            exact bad rfl
      · have hk : fFc sM rM = 2 := by unfold fFc; rw [if_pos y0, if_pos y1, if_neg y2]
        have w := wd (w := 14) (by rw [jp_w14 h]; exact y2) 2 hk
        rw [if_neg y2, if_neg y2, if_neg (show ¬ (2 : Int32) = -1 by decide), c2, f107]
        by_cases z : rM 66 2 = 0
        · rw [if_pos (g2a.mp z), if_pos z, w.2, c2]
          have w1 := w.1
          rw [c2] at w1
          show jS sC rC sM rM e _ (nmX 3 0 (s1F sM rM 1) (s1F sM rM) (up2 rM 66 2 1))
          rw [s61]
          refine jf_num w1 0 now 3 (by decide) (i := 2) (by decide) z s64 (up2_f _ _ _ _) (fun v b1 b2 => ?_)
          rw [c3]
          have vj : j31 v := Or.inr ⟨b2.1, by omega⟩
          unfold jf
          simp [up2_e, upd, ad_o, f104, f105, f106, f108, f109, b1, vj]
          exact ⟨⟨g0a, g0b⟩, ⟨g1a, g1b⟩, ⟨g3a, g3b⟩, g4⟩
        · rw [if_neg (fun q => z (g2a.mpr q)), if_neg z]
          exact bad rfl
    · have hk : fFc sM rM = 1 := by unfold fFc; rw [if_pos y0, if_neg y1]
      have w := wd (w := 13) (by rw [jp_w13 h]; exact y1) 1 hk
      rw [if_neg y1, if_neg y1, if_neg (show ¬ (1 : Int32) = -1 by decide), c1, f106]
      by_cases z : rM 66 1 = 0
      · rw [if_pos (g1a.mp z), if_pos z, w.2, c1]
        have w1 := w.1
        rw [c1] at w1
        show jS sC rC sM rM e _ (nmX 2 1 9 (s1F sM rM) (up2 rM 66 1 1))
        refine jf_num w1 1 9 2 (by decide) (i := 1) (by decide) z s64 (up2_f _ _ _ _) (fun v b1 b2 => ?_)
        rw [c2]
        have vn : ¬ v = 0 := fun q => by rw [q] at b2; exact absurd b2.1 (by decide)
        unfold jf
        simp [up2_e, upd, ad_o, f104, f105, f107, f108, f109, vn]
        exact ⟨⟨g0a, g0b⟩, ⟨g2a, g2b, g2c⟩, ⟨g3a, g3b⟩, g4⟩
      · rw [if_neg (fun q => z (g1a.mpr q)), if_neg z]
        exact bad rfl
  · have hk : fFc sM rM = 0 := by unfold fFc; rw [if_neg y0]
    have w := wd (w := 12) (by rw [jp_w12 h]; exact y0) 0 hk
    rw [if_neg y0, if_neg y0, if_neg (show ¬ (0 : Int32) = -1 by decide), c0, f104]
    by_cases z : rM 66 0 = 0
    · rw [if_pos (g0a.mp z), if_pos z, w.2, c0]
      have w1 := w.1
      rw [c0] at w1
      show jS sC rC sM rM e _ (plX (s1F sM rM) (up2 rM 66 0 1))
      have pl := jf_pl (rM := rM) (sM := sM) (sC := sC) w1 (i := 0) (by decide) z s64 (up2_f _ _ _ _)
      refine pl (fun v v' b1 b2 b2' => ?_)
      have z19 : (19 : Int32).toInt = 19 := by decide
      have vj : j19 v := ⟨b2.1, by have := b2.2; omega⟩
      have vj' : j19 v' := ⟨b2'.1, by have := b2'.2; omega⟩
      unfold jf
      simp [up2_e, upd, ad_o, f106, f107, f108, f109, b1, vj, vj']
      exact ⟨⟨g1a, g1b⟩, ⟨g2a, g2b, g2c⟩, ⟨g3a, g3b⟩, g4⟩
    · rw [if_neg (fun q => z (g0a.mpr q)), if_neg z]
      exact bad rfl
end JFA
