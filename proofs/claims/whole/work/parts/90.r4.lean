/-! rota -/
theorem cpI_o (r : Nat → Nat → Int32) (k : Nat) {f : Nat} (h : ¬ f = 56) : ∀ i, cpI r k i f = r f
  | 0 => rfl
  | i + 1 => by unfold cpI; rw [up2_nn _ _ _ h]; exact cpI_o r k h i
theorem cpI_i (r : Nat → Nat → Int32) (k j : Nat) : ∀ i, j < i → cpI r k i 56 (12 * k + j) = r 56 (12 * (10 + k) + j)
  | 0, h => by omega
  | i + 1, h => by
    unfold cpI
    by_cases y : j = i
    · subst y; rw [up2_ss]
    · rw [up2_sn _ _ _ (by omega)]; exact cpI_i r k j i (by omega)
theorem cpO_o (r : Nat → Nat → Int32) {f : Nat} (h1 : ¬ f = 54) (h2 : ¬ f = 55) (h3 : ¬ f = 56) : ∀ k, cpO r k f = r f
  | 0 => rfl
  | k + 1 => by
    unfold cpO
    rw [cpI_o _ _ h3]
    unfold cpA
    rw [up2_nn _ _ _ h2, up2_nn _ _ _ h1]
    exact cpO_o r h1 h2 h3 k
theorem cpO_54 (r : Nat → Nat → Int32) : ∀ k, k ≤ 10 → (∀ j, j < k → cpO r k 54 j = r 54 (10 + j)) ∧ (∀ j, k ≤ j → cpO r k 54 j = r 54 j)
  | 0, _ => ⟨fun j h => by omega, fun j _ => rfl⟩
  | k + 1, hk => by
    have ih := cpO_54 r k (by omega)
    have e : cpO r (k + 1) 54 = up2 (up2 (cpO r k) 54 k (cpO r k 54 (10 + k))) 55 k (cpO r k 55 (10 + k)) 54 := by
      rw [show cpO r (k + 1) = cpI (cpA (cpO r k) k) k 12 from rfl, cpI_o _ _ (by decide)]; rfl
    rw [e]
    refine ⟨fun j h => ?_, fun j h => ?_⟩
    · rw [up2_nn _ _ _ (by decide)]
      by_cases y : j = k
      · subst y; rw [up2_ss]; exact ih.2 _ (by omega)
      · rw [up2_sn _ _ _ y]; exact ih.1 j (by omega)
    · rw [up2_nn _ _ _ (by decide), up2_sn _ _ _ (by omega)]; exact ih.2 j (by omega)
theorem cpO_55 (r : Nat → Nat → Int32) : ∀ k, k ≤ 10 → (∀ j, j < k → cpO r k 55 j = r 55 (10 + j)) ∧ (∀ j, k ≤ j → cpO r k 55 j = r 55 j)
  | 0, _ => ⟨fun j h => by omega, fun j _ => rfl⟩
  | k + 1, hk => by
    have ih := cpO_55 r k (by omega)
    have e : cpO r (k + 1) 55 = up2 (up2 (cpO r k) 54 k (cpO r k 54 (10 + k))) 55 k (cpO r k 55 (10 + k)) 55 := by
      rw [show cpO r (k + 1) = cpI (cpA (cpO r k) k) k 12 from rfl, cpI_o _ _ (by decide)]; rfl
    rw [e]
    refine ⟨fun j h => ?_, fun j h => ?_⟩
    · by_cases y : j = k
      · subst y; rw [up2_ss]; exact ih.2 _ (by omega)
      · rw [up2_sn _ _ _ y, up2_nn _ _ _ (by decide)]; exact ih.1 j (by omega)
    · rw [up2_sn _ _ _ (by omega), up2_nn _ _ _ (by decide)]; exact ih.2 j (by omega)
theorem cpO_56 (r : Nat → Nat → Int32) : ∀ k, k ≤ 10 → (∀ j i, j < k → i < 12 → cpO r k 56 (12 * j + i) = r 56 (12 * (10 + j) + i)) ∧ (∀ j, 12 * k ≤ j → cpO r k 56 j = r 56 j)
  | 0, _ => ⟨fun j i h => by omega, fun j _ => rfl⟩
  | k + 1, hk => by
    have ih := cpO_56 r k (by omega)
    have ea : cpA (cpO r k) k 56 = cpO r k 56 := by unfold cpA; rw [up2_nn _ _ _ (by decide), up2_nn _ _ _ (by decide)]
    rw [show cpO r (k + 1) = cpI (cpA (cpO r k) k) k 12 from rfl]
    refine ⟨fun j i h hi => ?_, fun j h => ?_⟩
    · by_cases y : j = k
      · subst y
        rw [cpI_i _ _ _ 12 hi, ea]
        exact ih.2 _ (by omega)
      · rw [cpI_h _ _ _ 12 (fun a ha => by omega), ea]
        exact ih.1 j i (by omega) hi
    · rw [cpI_h _ _ _ 12 (fun a ha => by omega), ea]
      exact ih.2 j (by omega)
section JRO
variable {sC sM sC' sM' : Nat → Int32} {rC rM rC' rM' : Nat → Nat → Int32}
theorem jQt_w (h : jQt rC sM rM) (h52 : (sM 52).toNatClampNeg ≤ 10) (hw : jw rC rM rC' rM') (hs : sM' 52 = sM 52) (hs2 : sM' 26 = sM 26) : jQt rC' sM' rM' := by
  have e101 : rC' 101 = rC 101 := hw.1 101 (by decide) (by decide)
  unfold jQt
  rw [hs, e101]
  refine ⟨fun k hk => ?_, fun k q hk hq y => ?_, fun d hd hno => ?_⟩
  · obtain ⟨d, g⟩ := h.1 k hk
    have a := hw.2.2.1 k (by omega)
    have t := t_ix (x := rM 55 k) (by have := g.2.2.2.1; omega)
    refine ⟨d, g.1, by rw [a.1]; exact g.2.1, by rw [a.2, e101]; exact g.2.2.1, by rw [a.2]; exact g.2.2.2.1, fun i hi => ?_⟩
    rw [a.2] at hi
    have g1 := g.1
    have g4 := g.2.2.2.1.2
    rw [hw.2.2.2 (12 * k + i) (by omega), hs2, hw.1 (110 + d) (by omega) (by omega)]
    exact g.2.2.2.2 i hi
  · rw [(hw.2.2.1 k (by omega)).1, (hw.2.2.1 q (by omega)).1] at y
    exact h.2.1 k q hk hq y
  · exact h.2.2 d hd (fun k hk y => hno k hk (by rw [(hw.2.2.1 k (by omega)).1]; exact y))
theorem jI_rt (h : jI sC rC sM rM) (hC : ∀ f, f ∈ [1, 6, 14, 26, 39, 40, 52, 57] → sC' f = sC f) (hM : ∀ f, f ∈ [1, 6, 14, 26, 39, 40, 52, 57] → sM' f = sM f) (h61 : sC' 61 = 0 ∧ sM' 61 = 0) (h64 : sC' 64 = sM' 64) (hw : jw rC rM rC' rM') : jI sC' rC' sM' rM' := by
  obtain ⟨a, b, c, d, e⟩ := h
  have t52 := t_ix b.2.2.2.2.2.1.1
  have b52 := b.2.2.2.2.2.1.2
  refine ⟨⟨fun f hf => ?_, fun f hf => ?_⟩, ?_, fun f j => ?_, jZ_eq d (hM 26 (by decide)) (by rw [hM 39 (by decide)]; exact Int.le_refl _) (fun f hf => ?_), ⟨by rw [hM 40 (by decide)]; exact e.1, jQt_w e.2 (by omega) hw (hM 52 (by decide)) (hM 26 (by decide))⟩⟩
  · by_cases y : f = 61
    · rw [y, h61.1, h61.2]
    by_cases z : f = 64
    · rw [z, h64]
    have : ∀ f, f ∈ [1, 6, 14, 26, 39, 40, 52, 57, 61, 64] → ¬ f = 61 → ¬ f = 64 → f ∈ [1, 6, 14, 26, 39, 40, 52, 57] := by decide
    have m := this f hf y z
    rw [hC f m, hM f m, a.1 f hf]
  · have : ∀ f, f ∈ [2, 3, 4, 5, 7, 8, 9, 10, 11, 12, 13, 15, 16, 17, 18, 19, 20, 21, 22, 23, 24, 25, 27, 28, 29, 30, 31, 32, 33, 34, 35, 36, 37, 38, 41, 42, 43, 44, 45, 46, 47, 48, 49, 50, 51, 58, 59, 60] → f < 100 ∧ ¬ f = 54 ∧ ¬ f = 55 ∧ ¬ f = 56 ∧ ¬ f = 65 := by decide
    have m := this f hf
    rw [hw.1 f (by omega) (by omega), hw.2.1 f m.2.1 m.2.2.1 m.2.2.2.1 m.2.2.2.2, a.2 f hf]
  · unfold jN at b ⊢
    rw [hM 1 (by decide), hM 6 (by decide), hM 14 (by decide), hM 26 (by decide), hM 39 (by decide), hM 52 (by decide), hM 57 (by decide), h61.2]
    exact ⟨b.1, b.2.1, b.2.2.1, b.2.2.2.1, b.2.2.2.2.1, b.2.2.2.2.2.1, b.2.2.2.2.2.2.1, by decide⟩
  · by_cases y4 : f = 54
    · subst y4; trivial
    by_cases y5 : f = 55
    · subst y5; trivial
    by_cases y6 : f = 56
    · subst y6; trivial
    by_cases y : f = 65
    · subst y; trivial
    rw [hw.2.1 f y4 y5 y6 y]; exact c f j
  · have : ∀ f, f ∈ [15, 24, 25, 29, 31, 34, 36, 37] → ¬ f = 54 ∧ ¬ f = 55 ∧ ¬ f = 56 ∧ ¬ f = 65 := by decide
    have m := this f hf
    exact hw.2.1 f m.1 m.2.1 m.2.2.1 m.2.2.2
/-- the turns that have been read take the place of the old ones -/
theorem jI_sw (h : jI sC rC sM rM) (nk d : Nat) (hnk : (sM 26).toInt = nk) (hd : d ≤ 10) (hj : jd rC rM nk d) (h111 : sC 111 = nI d) : jI (rtW sC) (rtV rC) (upd sM 52 (nI d)) (cpO rM d) := by
  obtain ⟨a, b, c, g, e⟩ := h
  have c54 := cpO_54 rM d hd
  have c55 := cpO_55 rM d hd
  have c56 := cpO_56 rM d hd
  have idx : Int32.toNatClampNeg (nI d) = d := ix_nI (by omega)
  refine ⟨⟨fun f hf => ?_, fun f hf => ?_⟩, ?_, fun f j => ?_, jZ_eq g rfl (Int.le_refl _) (fun f hf => ?_), ⟨e.1, ?_⟩⟩
  · have : ∀ f, f ∈ [1, 6, 14, 26, 39, 40, 52, 57, 61, 64] → ¬ f = 111 := by decide
    have m := this f hf
    unfold rtW
    rw [upd_n _ m]
    by_cases y : f = 52
    · subst y; rw [upd_s, upd_s, h111]
    · rw [upd_n _ y, upd_n _ y]; exact a.1 f hf
  · have : ∀ f, f ∈ [2, 3, 4, 5, 7, 8, 9, 10, 11, 12, 13, 15, 16, 17, 18, 19, 20, 21, 22, 23, 24, 25, 27, 28, 29, 30, 31, 32, 33, 34, 35, 36, 37, 38, 41, 42, 43, 44, 45, 46, 47, 48, 49, 50, 51, 58, 59, 60] → f < 100 ∧ ¬ f = 54 ∧ ¬ f = 55 ∧ ¬ f = 56 := by decide
    have m := this f hf
    rw [cpO_o rM m.2.1 m.2.2.1 m.2.2.2]
    unfold rtV
    rw [if_neg (by omega), if_neg (by omega), if_neg (by omega), if_neg (by omega)]
    exact a.2 f hf
  · have e5 := nI_toInt (n := d) (by omega)
    exact ⟨b.1, b.2.1, b.2.2.1, b.2.2.2.1, b.2.2.2.2.1, ⟨by show 0 ≤ (nI d).toInt; omega, by show (nI d).toInt ≤ 10; omega⟩, b.2.2.2.2.2.2⟩
  · by_cases y4 : f = 54
    · subst y4; trivial
    by_cases y5 : f = 55
    · subst y5; trivial
    by_cases y6 : f = 56
    · subst y6; trivial
    rw [cpO_o rM y4 y5 y6]; exact c f j
  · have : ∀ f, f ∈ [15, 24, 25, 29, 31, 34, 36, 37] → ¬ f = 54 ∧ ¬ f = 55 ∧ ¬ f = 56 := by decide
    have m := this f hf
    exact cpO_o rM m.1 m.2.1 m.2.2 d
  · have v101 : rtV rC 101 = rC 102 := by unfold rtV; rw [if_pos rfl]
    have v110 : ∀ dd, dd ≤ 16 → rtV rC (110 + dd) = rC (130 + dd) := fun dd hdd => by
      unfold rtV
      rw [if_neg (by omega), if_neg (by omega), if_pos (by omega), show 110 + dd + 20 = 130 + dd from by omega]
    unfold jQt
    rw [upd_s, idx, v101]
    refine ⟨fun k hk => ?_, fun k q hk hq y => ?_, fun dd hdd hno => ?_⟩
    · obtain ⟨dd, q⟩ := hj.1 k hk
      have t := t_ix (x := rM 55 (10 + k)) (by have := q.2.2.2.1; omega)
      have q4 := q.2.2.2.1.2
      refine ⟨dd, q.1, by rw [c54.1 k hk]; exact q.2.1, by rw [c55.1 k hk, v101]; exact q.2.2.1, by rw [c55.1 k hk]; exact q.2.2.2.1, fun i hi => ?_⟩
      rw [c55.1 k hk] at hi
      have q5 := q.2.2.2.2 i hi
      rw [c56.1 k i hk (by omega), v110 dd q.1, upd_n _ (by decide)]
      exact ⟨q5.1, q5.2.1, by omega⟩
    · rw [c54.1 k hk, c54.1 q hq] at y
      exact hj.2.1 k q hk hq y
    · exact hj.2.2 dd hdd (fun k hk y => hno k hk (by rw [c54.1 k hk]; exact y))
theorem j_rota (h : jI sC rC sM rM) (v : Int32) (s1 : Nat → Int32) (r1 : Nat → Nat → Int32) (hok : ¬ (ktZ (sC 26) sC rC).1 = 0 → ∀ sc : Nat → Int32, sc = ktU sC rC → v = sc 111 ∧ s1 = rtW sc ∧ r1 = rtV (ktZ (sC 26) sC rC).2.2) : jG [eA] (xRo sC rC) v s1 r1 (ktU sC rC) (ktZ (sC 26) sC rC).2.2 (roX sM rM).1 (roX sM rM).2.1 (roX sM rM).2.2 := by
  have b61 := h.N.2.2.2.2.2.2.2
  have b26 := h.N.2.2.2.1
  have t26 := t_ix b26.1
  have t61 := t_ix b61.1
  have n61 := t_ixn b61.1
  have fz : ∀ f, ¬ f = 102 → fZ 0 rC f = rC f := fun f y => if_neg y
  have fz2 : ∀ j, j < 17 → fZ 0 rC 102 j = 0 := fun j hj => by
    show fiU (rC 102) 0 17 j = 0
    exact if_pos hj
  have hp : jp (upd (upd sC 111 0) 102 0) (fZ 0 rC) (upd (bT sM) 53 0) rM (sM 61).toNatClampNeg 0 := by
    refine ⟨(fz 60 (by decide)).trans (h.q.r 60), fun j => h.E 60 j, ⟨by omega, Nat.zero_le _⟩, ?_, ?_, ?_, ?_⟩
    · show sC 61 = _
      rw [h.q.s 61, n61]
    · show sM 61 = _
      rw [n61]
    · show (0 : Int32) = nI 0
      decide
    · show (0 : Int32) = nI 0
      decide
  have lp := rt_loop (e := (sM 61).toNatClampNeg) (sM 26) (sM 26).toNatClampNeg t26.symm (by omega) 10 11 0 (upd (upd sC 111 0) 102 0) (upd (bT sM) 53 0) (fZ 0 rC) rM 0 rfl rfl hp rfl (by rw [upd_s]; decide) (by rw [upd_n _ (by decide), upd_s]; decide) ⟨fun k hk => by omega, fun k q hk => by omega, fun dd hdd _ => fz2 dd (by omega)⟩
  have eZ : ktZ (sC 26) sC rC = ktC (sM 26) 10 (upd (upd sC 111 0) 102 0) (fZ 0 rC) := by unfold ktZ; rw [h.q.s 26]
  have eX : rtX (bT sM) rM = rtL 11 (upd (bT sM) 53 0) rM := rfl
  have kU : ktU sC rC = ctS (ktZ (sC 26) sC rC).1 (ktZ (sC 26) sC rC).2.1 := rfl
  have kUn : ∀ f, f ∈ [1, 6, 14, 26, 39, 40, 52, 57] → ktU sC rC f = sC f := fun f hf => by
    have : ∀ f, f ∈ [1, 6, 14, 26, 39, 40, 52, 57] → f < 100 ∧ ¬ f = 61 ∧ ¬ f = 64 := by decide
    have m := this f hf
    exact ktU_n m.1 m.2.1 m.2.2
  unfold xRo roX
  rw [eX]
  rw [eZ] at hok kU ⊢
  generalize ktU sC rC = U at *
  generalize ktC (sM 26) 10 (upd (upd sC 111 0) 102 0) (fZ 0 rC) = X at *
  generalize rtL 11 (upd (bT sM) 53 0) rM = Y at *
  obtain ⟨w, fr, lp⟩ := lp
  have w' : jw rC rM X.2.2 Y.2.2 := ⟨fun f a b => (w.1 f a b).trans (fz f a), w.2⟩
  have hM : ∀ k : Int32, ∀ f, f ∈ [1, 6, 14, 26, 39, 40, 52, 57] → upd Y.2.1 0 k f = sM f := fun k f hf => by
    have : ∀ f, f ∈ [1, 6, 14, 26, 39, 40, 52, 57] → ¬ f = 63 ∧ ¬ f = 64 ∧ ¬ f = 53 ∧ ¬ f = 0 ∧ ¬ f = 61 ∧ ¬ f = 62 := by decide
    have m := this f hf
    rw [upd_n _ m.2.2.2.1, fr f m.1 m.2.1 m.2.2.1, upd_n _ m.2.2.1]
    unfold bT
    rw [upd_n _ m.2.1, upd_n _ m.1, upd_n _ m.2.2.2.2.1, upd_n _ m.2.2.2.2.2]
  have h61 : ∀ k : Int32, U 61 = 0 ∧ upd Y.2.1 0 k 61 = 0 := fun k => by
    refine ⟨by rw [kU]; unfold ctS; rw [upd_s], ?_⟩
    rw [upd_n _ (by decide), fr 61 (by decide) (by decide) (by decide)]
    rfl
  have u64 : U 64 = if X.1 = 0 then X.2.1 101 else -1 := by rw [kU]; unfold ctS; rw [upd_n _ (by decide), upd_s]
  have u111 : U 111 = X.2.1 111 := by rw [kU]; unfold ctS; rw [upd_n _ (by decide), upd_n _ (by decide)]
  rcases lp with ⟨a, b, c⟩ | ⟨a, b, c, d', d1, d2, d3, d4⟩
  · rw [if_pos a, if_pos b]
    refine ⟨fun E q => ?_, ?_, fun q => ?_, fun _ => ?_⟩
    · cases q; decide
    · show hC [eA] (some eA) = 1
      decide +kernel
    · cases q
    · refine jI_rt h kUn (hM 1) (h61 1) ?_ w'
      rw [u64, if_pos a]
      show X.2.1 101 = upd Y.2.1 0 1 64
      rw [upd_n _ (by decide)]; exact c
  · rw [if_neg a, if_neg b]
    obtain ⟨q1, q2, q3⟩ := hok a U rfl
    refine ⟨fun E q => ?_, ?_, fun _ => ?_, fun q => absurd rfl q⟩
    · cases q
    · show (0 : Int32) = upd (upd Y.2.1 0 0) 52 (Y.2.1 53) 0
      rw [upd_n _ (by decide), upd_s]
    · show v = Y.2.1 53 ∧ jI s1 r1 (upd (upd Y.2.1 0 0) 52 (Y.2.1 53)) (cpO Y.2.2 (Y.2.1 53).toNatClampNeg)
      have J := jI_rt h kUn (hM 0) (h61 0) (by rw [u64, if_neg a, upd_n _ (by decide), c]; rfl) w'
      rw [q1, q2, q3, d3, u111, d2, ix_nI (by omega)]
      refine ⟨rfl, jI_sw J (sM 26).toNatClampNeg d' ?_ d1 d4 (u111.trans d2)⟩
      rw [hM 0 26 (by decide)]; exact t26.symm
end JRO
