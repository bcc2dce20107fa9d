/-! the two readers: a call -/
theorem b8_sg : ∀ n, n < 256 → ((nI n).toInt8.toInt32 = 44 ↔ nI n = 44) ∧ ((nI n).toInt8.toInt32 = 58 ↔ nI n = 58) ∧ ((nI n).toInt8.toInt32 = 59 ↔ nI n = 59) := by decide +kernel
section JCL
variable {sC sM : Nat → Int32} {rC rM : Nat → Nat → Int32} {e p : Nat}
theorem jp.t0 (h : jp sC rC sM rM e p) (j : Nat) : ¬ rM 60 j = -1 := fun q => by
  have := (h.2.1 j).1
  rw [q] at this
  exact absurd this (by decide)
theorem kd_0 (h : jp sC rC sM rM e p) : kKd sC rC (kBg sC rC) = 0 ↔ vSg sM rM = -1 := by
  rw [h.b]
  unfold kKd vSg
  rw [h.tl, h.te, h.1]
  by_cases y : e ≤ aSg sM rM
  · rw [if_pos y, if_pos y]; exact ⟨fun _ => rfl, fun _ => rfl⟩
  · rw [if_neg y, if_neg y]
    refine ⟨fun q => ?_, fun q => absurd q (h.t0 _)⟩
    split at q
    · split at q <;> exact absurd q (by decide)
    · exact absurd q (by decide)
theorem kd_2 (h : jp sC rC sM rM e p) : kKd sC rC (kBg sC rC) = 2 ↔ ¬ fDi (vSg sM rM) = 0 := by
  rw [h.b]
  unfold kKd vSg
  rw [h.tl, h.te, h.1]
  by_cases y : e ≤ aSg sM rM
  · rw [if_pos y, if_pos y]; exact ⟨fun q => absurd q (by decide), fun q => absurd (by decide) q⟩
  · rw [if_neg y, if_neg y]
    by_cases y1 : fDi (rM 60 (aSg sM rM)) = 0
    · rw [if_pos y1]
      refine ⟨fun q => ?_, fun q => absurd y1 q⟩
      split at q <;> exact absurd q (by decide)
    · rw [if_neg y1, if_pos (le_di y1)]
      exact ⟨fun _ => y1, fun _ => rfl⟩
/-- the same sign -/
theorem jp_sg (h : jp sC rC sM rM e p) (c : Int32) (hc : c = 44 ∨ c = 58 ∨ c = 59) : (kSg c (adS sC rC) rC = 0 ↔ ¬ vSg sM rM = c) ∧ (vSg sM rM = c → kBh sC rC (kBg sC rC) = aSg sM rM + 1 ∧ aSg sM rM < e) := by
  have q := h.2.2.1
  have bb := h.be
  have hn : ¬ c = -1 ∧ fLe c = 0 ∧ fDi c = 0 := by rcases hc with y | y | y <;> subst y <;> decide
  have h8 := h.2.1 (aSg sM rM)
  have e8 : (rM 60 (aSg sM rM)).toInt8.toInt32 = c ↔ rM 60 (aSg sM rM) = c := by
    have t := t_ix h8.1
    have k := b8_sg (rM 60 (aSg sM rM)).toNatClampNeg (by omega)
    rw [t_ixn h8.1] at k
    rcases hc with y | y | y <;> subst y
    · exact k.1
    · exact k.2.1
    · exact k.2.2
  unfold kSg
  rw [ad_101, ad_103, h.b, ix_nI (by omega)]
  unfold kKd kBh vSg
  rw [h.tl, h.te, h.1]
  by_cases y : e ≤ aSg sM rM
  · simp only [if_pos y]
    rw [if_neg (by decide)]
    exact ⟨⟨fun _ z => hn.1 z.symm, fun _ => rfl⟩, fun z => absurd z.symm hn.1⟩
  · simp only [if_neg y]
    by_cases y1 : fLe (rM 60 (aSg sM rM)) = 0
    · simp only [if_pos y1]
      by_cases y2 : fDi (rM 60 (aSg sM rM)) = 0
      · simp only [if_pos y2]
        rw [if_pos trivial]
        refine ⟨?_, fun z => ⟨trivial, by omega⟩⟩
        by_cases y3 : rM 60 (aSg sM rM) = c
        · rw [if_pos (e8.mpr y3)]
          exact ⟨fun z => absurd z (by decide), fun z => absurd y3 z⟩
        · rw [if_neg (fun z => y3 (e8.mp z))]
          exact ⟨fun _ => y3, fun _ => rfl⟩
      · simp only [if_neg y2]
        have ne : ¬ rM 60 (aSg sM rM) = c := fun z => y2 (by rw [z]; exact hn.2.2)
        rw [if_neg (by decide)]
        exact ⟨⟨fun _ => ne, fun _ => rfl⟩, fun z => absurd z ne⟩
    · simp only [if_neg y1]
      have ne : ¬ rM 60 (aSg sM rM) = c := fun z => y1 (by rw [z]; exact hn.2.1)
      rw [if_neg (by decide)]
      exact ⟨⟨fun _ => ne, fun _ => rfl⟩, fun z => absurd z ne⟩
/-- behind a sign -/
theorem jp_next (h : jp sC rC sM rM e p) (c : Int32) (hc : c = 44 ∨ c = 58 ∨ c = 59) (hv : vSg sM rM = c) : jp (adS sC rC) rC (upd (sSg sM rM) 63 (sSg sM rM 63 + 1)) rM e (aSg sM rM + 1) := by
  have q := h.2.2.1
  have k := (jp_sg h c hc).2 hv
  refine ⟨h.1, h.2.1, ⟨q.1, k.2⟩, ?_, h.2.2.2.2.1, ?_, ?_⟩
  · rw [ad_o _ _ (by decide) (by decide) (by decide)]; exact h.2.2.2.1
  · rw [ad_102, k.1]
  · show sSg sM rM 63 + 1 = _
    rw [sSg_63, nI_1]
theorem jf_ad {s : Nat → Int32} {r r' : Nat → Nat → Int32} (h : jf s r') : jf (adS s r) r' := by
  unfold jf at h ⊢
  rw [ad_o _ _ (f := 104) (by decide) (by decide) (by decide), ad_o _ _ (f := 105) (by decide) (by decide) (by decide), ad_o _ _ (f := 106) (by decide) (by decide) (by decide), ad_o _ _ (f := 107) (by decide) (by decide) (by decide), ad_o _ _ (f := 108) (by decide) (by decide) (by decide), ad_o _ _ (f := 109) (by decide) (by decide) (by decide)]
  exact h
def cf (g : Nat → Int32) : Nat := kCn (fun i => !decide (g i = 0)) 5
theorem cf_up {g : Nat → Int32} {i : Nat} (hi : i < 5) (h : g i = 0) : cf (upd g i 1) = cf g + 1 := by
  unfold cf
  have e1 : ∀ j, ¬ j = i → upd g i 1 j = g j := fun j hj => if_neg hj
  have e2 : upd g i 1 i = 1 := if_pos rfl
  have a := kCn_lt (p := fun i => !decide (g i = 0)) (q := fun j => !decide (upd g i 1 j = 0)) (k := i) (by simp [e2]) (by simp [h]) 5 hi (fun j _ hj => by
    by_cases y : j = i
    · subst y; simp [e2]
    · simpa [e1 j y] using hj)
  have b := kCn_but (p := fun i => !decide (g i = 0)) (q := fun j => !decide (upd g i 1 j = 0)) (k := i) 5 (fun j _ y hj => by simpa [e1 j y] using hj)
  omega
theorem cf_5 {g : Nat → Int32} (h : cf g = 5) {i : Nat} (hi : i < 5) : ¬ g i = 0 := fun q => by
  unfold cf at h
  have a := kCn_lt (p := fun i => !decide (g i = 0)) (q := fun _ => true) (k := i) rfl (by simp [q]) 5 hi (fun _ _ _ => rfl)
  have b := kCn_le (fun _ => true) 5
  omega
theorem rdF_full (s : Nat → Int32) (r : Nat → Nat → Int32) (h : ∀ i, i < 5 → ¬ r 66 i = 0) : rdF s r = wrX (nI (aSg s r)) (sSg s r) r := by
  unfold rdF
  by_cases c : fFc s r = -1
  · rw [if_pos c]
  · rw [if_neg c, if_neg]
    have := vp_in_iff.mp (fFc_in c)
    have t := t_ix this.1
    exact h _ (by omega)
theorem rd_end {S : Nat → Int32} {R : Nat → Nat → Int32} (jq : jp sC rC S R e p) (jfq : jf sC R) : (((if kAe (adS sC rC) = 0 then (0 : Int32) else if adS sC rC 104 = -1 then 0 else 1)) = 0 ∧ (fiX (sSg S R) R).1 = 0 ∧ adS sC rC 101 = (fiX (sSg S R) R).2.1 64) ∨ (¬ ((if kAe (adS sC rC) = 0 then (0 : Int32) else if adS sC rC 104 = -1 then 0 else 1)) = 0 ∧ ¬ (fiX (sSg S R) R).1 = 0 ∧ jf (adS sC rC) (fiX (sSg S R) R).2.2 ∧ ¬ (fiX (sSg S R) R).2.2 66 0 = 0 ∧ (fiX (sSg S R) R).2.1 64 = S 64) := by
  have k0 := kd_0 jq
  have ea : ∀ a b c : Int32, (if kAe (adS sC rC) = 0 then a else b) = if vSg S R = -1 then b else a := by
    intro a b c
    unfold kAe
    rw [ad_103]
    by_cases z : vSg S R = -1
    · rw [if_pos (k0.mpr z), if_pos z, if_neg (by decide)]
    · rw [if_neg (fun v => z (k0.mp v)), if_neg z, if_pos rfl]
  rw [ea _ _ 0, ad_o sC rC (f := 104) (by decide) (by decide) (by decide)]
  have ef : fiX (sSg S R) R = if vSg S R = -1 then (if R 66 0 = 0 then wrX (sSg (sSg S R) R 62) (sSg (sSg S R) R) R else (1, sSg (sSg S R) R, R)) else wrX (nI (aSg S R)) (sSg (sSg S R) R) R := by
    unfold fiX
    rw [vSg_id jq.B, aSg_id jq.B, c0]
  rw [ef, ad_101, jq.b]
  by_cases z : vSg S R = -1
  · rw [if_pos z, if_pos z]
    by_cases w : R 66 0 = 0
    · left
      rw [if_pos w, if_pos (jfq.1.1.mp w)]
      refine ⟨rfl, rfl, ?_⟩
      have e62 : (wrX (sSg (sSg S R) R 62) (sSg (sSg S R) R) R).2.1 64 = S 62 := rfl
      rw [e62, jq.2.2.2.2.1]
      have jb := jq.be
      unfold vSg at z
      rw [jq.te] at z
      by_cases v : e ≤ aSg S R
      · rw [show aSg S R = e from by omega]
      · rw [if_neg v] at z
        exact absurd z (jq.t0 _)
    · right
      rw [if_neg w, if_neg (fun v => w (jfq.1.1.mpr v))]
      exact ⟨by decide, (by decide : ¬ (1 : Int32) = 0), jf_ad jfq, w, rfl⟩
  · left
    rw [if_neg z, if_neg z]
    exact ⟨rfl, rfl, rfl⟩
theorem rd_loop (now : Int32) (hn : 0 ≤ now.toInt ∧ now.toInt ≤ 743) : ∀ (n k : Nat) (sC sM : Nat → Int32) (rM : Nat → Nat → Int32) (p : Nat), jp sC rC sM rM e p → jf sC rM → sM 1 = now → cf (rM 66) + k = 5 → e < p + n → ((rdG now rC k sC).1 = 0 ∧ (rdC n sM rM).1 = 0 ∧ (rdG now rC k sC).2 101 = (rdC n sM rM).2.1 64) ∨ (¬ (rdG now rC k sC).1 = 0 ∧ ¬ (rdC n sM rM).1 = 0 ∧ jf (rdG now rC k sC).2 (rdC n sM rM).2.2 ∧ ¬ (rdC n sM rM).2.2 66 0 = 0 ∧ (rdC n sM rM).2.1 64 = sM 64) := by
  intro n
  induction n with
  | zero => exact fun k sC sM rM p h _ _ _ hp => absurd h.2.2.1.2 (by omega)
  | succ n ih0 =>
    intro k
    cases k with
    | zero =>
      intro sC sM rM p h hf h1 hc hp
      left
      have ef := rdF_full sM rM (fun i hi => cf_5 (by omega) hi)
      unfold rdG rdC
      rw [ef]
      refine ⟨rfl, rfl, ?_⟩
      show adS sC rC 101 = nI (aSg sM rM)
      rw [ad_101, h.b]
    | succ k =>
      intro sC sM rM p h hf h1 hc hp
      have st := jf_step h hf now h1 hn
      have hsF : ∀ f, ¬ f = 63 → ¬ f = 64 → (rdF sM rM).2.1 f = sM f := fun f a b => rdF_n a b sM rM
      have hq := h.be
      have onF := tOn_F (r := rM) h.B
      unfold rdG rdC
      generalize rdB now (adS sC rC) rC = X at *
      generalize rdF sM rM = Y at *
      rcases st with ⟨a, b, c⟩ | ⟨a, b, q, jq, jfq, q64, i, hi, iz, i66⟩
      · left
        rw [if_pos a, if_pos b]
        exact ⟨rfl, rfl, c⟩
      · rw [if_neg a, if_neg b]
        have sg := jp_sg jq 44 (Or.inl rfl)
        by_cases y : vSg Y.2.1 Y.2.2 = 44
        · have y' : ¬ kSg 44 (adS X.2 rC) rC = 0 := fun z => sg.1.mp z y
          rw [if_neg y', if_pos y]
          have nx := jp_next jq 44 (Or.inl rfl) y
          have pq : p ≤ q := by
            have o := onF.2.2.1
            rw [h.2.2.2.2.2.2, jq.2.2.2.2.2.2, ix_nI (by have := h.2.2.1; omega), ix_nI (by have := jq.2.2.1; omega)] at o
            exact o
          have jb := jq.be
          have ih := ih0 k (adS X.2 rC) (upd (sSg Y.2.1 Y.2.2) 63 (sSg Y.2.1 Y.2.2 63 + 1)) Y.2.2 _ nx (jf_ad jfq) ((hsF 1 (by decide) (by decide)).trans h1) (by rw [i66, cf_up hi iz]; omega) (by omega)
          rcases ih with z | ⟨z1, z2, z3, z4, z5⟩
          · exact Or.inl z
          · exact Or.inr ⟨z1, z2, z3, z4, z5.trans q64⟩
        · have y' : kSg 44 (adS X.2 rC) rC = 0 := sg.1.mpr y
          rw [if_pos y', if_neg y]
          rcases rd_end jq jfq with z | z
          · exact Or.inl z
          · exact Or.inr ⟨z.1, z.2.1, z.2.2.1, z.2.2.2.1, z.2.2.2.2.trans q64⟩
theorem rdC_60 {f : Nat} (hf : ¬ f = 65) (hf2 : ¬ f = 66) : ∀ (n : Nat) (s : Nat → Int32) (r : Nat → Nat → Int32), (rdC n s r).2.2 f = r f
  | 0, _, _ => rfl
  | n + 1, s, r => by
    unfold rdC
    have e := rdF_60 hf hf2 s r
    generalize rdF s r = Y at *
    split
    · exact e
    · split
      · rw [rdC_60 hf hf2 n]; exact e
      · unfold fiX
        split
        · split
          · exact e
          · exact e
        · exact e
end JCL
