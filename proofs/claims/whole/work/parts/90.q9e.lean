/-! call -/
theorem ca_ch (r : Nat → Nat → Int32) (i : Nat) (x y : Int32) : up2 (up2 (up2 (up2 (up2 (up2 (up2 (up2 (up2 (up2 (up2 (zca r i) 44 i (0)) 41 i (0)) 45 i (0)) 46 i (-1)) 47 i (0)) 48 i (0)) 49 i (-1)) 50 i (-1)) 51 i (-1)) 42 i (x)) 43 i (y) = up2 (up2 (up2 (up2 (up2 (up2 (up2 (up2 (up2 (up2 (up2 (r) 49 i (-1)) 41 i (0)) 42 i (x)) 43 i (y)) 44 i (0)) 45 i (0)) 46 i (-1)) 47 i (0)) 48 i (0)) 50 i (-1)) 51 i (-1) := by
  funext f j
  simp only [zca, up2_e]
  by_cases hj : j = i
  · subst hj
    by_cases h41 : f = 41
    · subst h41; simp
    by_cases h42 : f = 42
    · subst h42; simp
    by_cases h43 : f = 43
    · subst h43; simp
    by_cases h44 : f = 44
    · subst h44; simp
    by_cases h45 : f = 45
    · subst h45; simp
    by_cases h46 : f = 46
    · subst h46; simp
    by_cases h47 : f = 47
    · subst h47; simp
    by_cases h48 : f = 48
    · subst h48; simp
    by_cases h49 : f = 49
    · subst h49; simp
    by_cases h50 : f = 50
    · subst h50; simp
    by_cases h51 : f = 51
    · subst h51; simp
    simp [h41, h42, h43, h44, h45, h46, h47, h48, h49, h50, h51]
  · simp [hj]
section JCA
variable {sC sM sC' sM' : Nat → Int32} {rC rM rM' : Nat → Nat → Int32}
theorem jI_fr (h : jI sC rC sM rM) (hC : ∀ f, f ∈ [1, 6, 14, 26, 39, 40, 52, 57] → sC' f = sC f) (hM : ∀ f, f ∈ [1, 6, 14, 26, 39, 40, 52, 57] → sM' f = sM f) (h61 : sC' 61 = 0 ∧ sM' 61 = 0) (h64 : sC' 64 = sM' 64) (hr : ∀ f, ¬ f = 65 → ¬ f = 66 → rM' f = rM f) : jI sC' rC sM' rM' := by
  obtain ⟨a, b, c, d, e⟩ := h
  refine ⟨⟨fun f hf => ?_, fun f hf => ?_⟩, ?_, fun f j => ?_, jZ_eq d (hM 26 (by decide)) (by rw [hM 39 (by decide)]; exact Int.le_refl _) (fun f hf => ?_), jQ_eq e rfl (fun _ _ => rfl) (hM 52 (by decide)) (by rw [hM 26 (by decide)]; exact Int.le_refl _) (hr _ (by decide) (by decide)) (hr _ (by decide) (by decide)) (hr _ (by decide) (by decide)) (hM 40 (by decide))⟩
  · by_cases y : f = 61
    · rw [y, h61.1, h61.2]
    by_cases z : f = 64
    · rw [z, h64]
    have : ∀ f, f ∈ [1, 6, 14, 26, 39, 40, 52, 57, 61, 64] → ¬ f = 61 → ¬ f = 64 → f ∈ [1, 6, 14, 26, 39, 40, 52, 57] := by decide
    have m := this f hf y z
    rw [hC f m, hM f m, a.1 f hf]
  · have : ∀ f, f ∈ [2, 3, 4, 5, 7, 8, 9, 10, 11, 12, 13, 15, 16, 17, 18, 19, 20, 21, 22, 23, 24, 25, 27, 28, 29, 30, 31, 32, 33, 34, 35, 36, 37, 38, 41, 42, 43, 44, 45, 46, 47, 48, 49, 50, 51, 58, 59, 60] → ¬ f = 65 ∧ ¬ f = 66 := by decide
    rw [hr f (this f hf).1 (this f hf).2, a.2 f hf]
  · unfold jN at b ⊢
    rw [hM 1 (by decide), hM 6 (by decide), hM 14 (by decide), hM 26 (by decide), hM 39 (by decide), hM 52 (by decide), hM 57 (by decide), h61.2]
    exact ⟨b.1, b.2.1, b.2.2.1, b.2.2.2.1, b.2.2.2.2.1, b.2.2.2.2.2.1, b.2.2.2.2.2.2.1, by decide⟩
  · by_cases y : f = 65
    · subst y; trivial
    by_cases z : f = 66
    · subst z; trivial
    rw [hr f y z]; exact c f j
  · have : ∀ f, f ∈ [15, 24, 25, 29, 31, 34, 36, 37] → ¬ f = 65 ∧ ¬ f = 66 := by decide
    exact hr f (this f hf).1 (this f hf).2
theorem cl_read (h : jI sC rC sM rM) : ((rdZ (sC 1) sC rC).1 = 0 ∧ clV sM rM = 0 ∧ (rdZ (sC 1) sC rC).2 101 = clS sM rM 64) ∨ (¬ (rdZ (sC 1) sC rC).1 = 0 ∧ ¬ clV sM rM = 0 ∧ jf (rdZ (sC 1) sC rC).2 (clR sM rM) ∧ ¬ clR sM rM 66 0 = 0 ∧ clS sM rM 64 = -1) := by
  have b := h.N.2.2.2.2.2.2.2
  have t := t_ix b.1
  have en := t_ixn b.1
  have er : ∀ f, ¬ f = 65 → ¬ f = 66 → r0C rM f = rM f := fun f y z => by
    unfold r0C
    rw [up2_nn _ _ _ y, up2_nn _ _ _ y, up2_nn _ _ _ y, up2_nn _ _ _ z, up2_nn _ _ _ z, up2_nn _ _ _ z, up2_nn _ _ _ z, up2_nn _ _ _ z]
  have e60 := er 60 (by decide) (by decide)
  have hp : jp (upd (fgS sC) 102 0) rC (upd (bT sM) 0 0) (r0C rM) (sM 61).toNatClampNeg 0 := by
    refine ⟨by rw [e60]; exact h.q.r 60, fun j => ?_, ⟨by omega, Nat.zero_le _⟩, ?_, ?_, ?_, ?_⟩
    · rw [e60]; exact h.E 60 j
    · show sC 61 = _
      rw [h.q.s 61, en]
    · show sM 61 = _
      rw [en]
    · show (0 : Int32) = nI 0
      decide
    · show (0 : Int32) = nI 0
      decide
  have f66 : ∀ i, i < 5 → r0C rM 66 i = 0 := by
    intro i hi
    unfold r0C
    rw [up2_nn _ _ _ (by decide), up2_nn _ _ _ (by decide), up2_nn _ _ _ (by decide), c0, c1, c2, c3, c4]
    simp only [up2_e]
    rcases (show i = 0 ∨ i = 1 ∨ i = 2 ∨ i = 3 ∨ i = 4 by omega) with y | y | y | y | y <;> subst y <;> simp
  have f2 : r0C rM 65 2 = 0 := by unfold r0C; rw [c2, c3, c4]; simp [up2_e]
  have f3 : r0C rM 65 3 = -1 := by unfold r0C; rw [c2, c3, c4]; simp [up2_e]
  have f4 : r0C rM 65 4 = 0 := by unfold r0C; rw [c2, c3, c4]; simp [up2_e]
  have hf : jf (upd (fgS sC) 102 0) (r0C rM) := by
    unfold jf
    rw [f66 0 (by decide), f66 1 (by decide), f66 2 (by decide), f66 3 (by decide), f66 4 (by decide), f2, f3, f4]
    refine ⟨⟨⟨fun _ => rfl, fun _ => rfl⟩, fun y => absurd rfl y⟩, ⟨⟨fun _ => rfl, fun _ => rfl⟩, rfl⟩, ⟨⟨fun _ => rfl, fun _ => rfl⟩, rfl, Or.inl rfl⟩, ⟨⟨fun _ => rfl, fun _ => rfl⟩, rfl⟩, ⟨fun _ => rfl, fun _ => rfl⟩⟩
  have hcf : cf (r0C rM 66) + 5 = 5 := by
    have : cf (r0C rM 66) = 0 := kCn_z 5 (fun j hj => by simp [f66 j hj])
    omega
  have l := rd_loop (rC := rC) (e := (sM 61).toNatClampNeg) (sM 1) h.N.1 (1 + (sM 61).toNatClampNeg) 5 (upd (fgS sC) 102 0) (upd (bT sM) 0 0) (r0C rM) 0 hp hf rfl hcf (by omega)
  have ez : rdZ (sC 1) sC rC = rdG (sM 1) rC 5 (upd (fgS sC) 102 0) := by unfold rdZ; rw [h.q.s 1]
  have ex : rdX (upd (bT sM) 0 0) rM = rdC (1 + (sM 61).toNatClampNeg) (upd (bT sM) 0 0) (r0C rM) := by
    unfold rdX
    have : tE (upd (bT sM) 0 0) = (sM 61).toNatClampNeg := rfl
    rw [this]
  unfold clV clS clR
  rw [ez, ex]
  exact l
theorem clR_n {f : Nat} (y : ¬ f = 65) (z : ¬ f = 66) (s : Nat → Int32) (r : Nat → Nat → Int32) : clR s r f = r f := by
  unfold clR rdX
  rw [rdC_60 y z]
  unfold r0C
  rw [up2_nn _ _ _ y, up2_nn _ _ _ y, up2_nn _ _ _ y, up2_nn _ _ _ z, up2_nn _ _ _ z, up2_nn _ _ _ z, up2_nn _ _ _ z, up2_nn _ _ _ z]
theorem clS_61 (s : Nat → Int32) (r : Nat → Nat → Int32) : clS s r 61 = 0 := by
  unfold clS rdX
  rw [rdC_n (by decide) (by decide)]
  rfl
theorem upd_s (s : Nat → Int32) (f : Nat) (v : Int32) : upd s f v f = v := if_pos rfl
theorem jI_cl (h : jI sC rC sM rM) (k : Int32) : jI (kcS sC rC) rC (upd (clS sM rM) 0 k) (clR sM rM) := by
  refine jI_fr h (fun f hf => ?_) (fun f hf => ?_) ⟨rfl, ?_⟩ ?_ (fun f y z => clR_n y z _ _)
  · have : ∀ f, f ∈ [1, 6, 14, 26, 39, 40, 52, 57] → f < 100 ∧ ¬ f = 61 ∧ ¬ f = 64 := by decide
    have m := this f hf
    exact kcS_n m.1 m.2.1 m.2.2
  · have : ∀ f, f ∈ [1, 6, 14, 26, 39, 40, 52, 57] → ¬ f = 63 ∧ ¬ f = 64 ∧ ¬ f = 61 ∧ ¬ f = 62 ∧ ¬ f = 0 := by decide
    have m := this f hf
    rw [upd_n _ m.2.2.2.2]
    exact clS_n m.1 m.2.1 m.2.2.1 m.2.2.2.1 m.2.2.2.2 _ _
  · rw [upd_n _ (by decide)]; exact clS_61 _ _
  · rw [upd_n _ (by decide)]
    unfold kcS ctS
    rw [upd_n _ (by decide)]
    rw [upd_s]
    rcases cl_read h with ⟨a, -, c⟩ | ⟨a, -, -, -, c⟩
    · rw [if_pos a]; exact c
    · rw [if_neg a]; exact c.symm
theorem kc_hi {f : Nat} (h : 100 ≤ f) : kcS sC rC f = (rdZ (sC 1) sC rC).2 f := by
  unfold kcS ctS
  rw [upd_n _ (by omega), upd_n _ (by omega)]
theorem jf_eq {s s' : Nat → Int32} {r r' : Nat → Nat → Int32} (h : jf s r) (hs : ∀ f, 104 ≤ f → f ≤ 109 → s' f = s f) (h1 : r' 65 = r 65) (h2 : r' 66 = r 66) : jf s' r' := by
  unfold jf at h ⊢
  rw [hs 104 (by decide) (by decide), hs 105 (by decide) (by decide), hs 106 (by decide) (by decide), hs 107 (by decide) (by decide), hs 108 (by decide) (by decide), hs 109 (by decide) (by decide), h1, h2]
  exact h
theorem al_mt (h : jI sC rC sM rM) (hf : jf sC rM) (h0 : ¬ rM 66 0 = 0) (j : Nat) : faP sC rC j = mtP sM rM j := by
  have p := hf.1.2 h0
  have b41 : 0 ≤ (rM 41 j).toInt := h.E 41 j
  unfold faP kAl mtP
  rw [c0, c1, c4, h.q.s 1, h.q.r 41, h.q.r 42, h.q.r 43, h.q.r 47, h.q.r 49, p.1, p.2.1, hf.2.2.2.1.2, (kSt_f (h.E 42 j) (h.E 43 j) p.2.2.1 p.2.2.2).1]
  have z2 : (2 : Int32).toInt = 2 := by decide
  have z0 : (0 : Int32).toInt = 0 := by decide
  have z1 : (1 : Int32).toInt = 1 := by decide
  by_cases y0 : 2 ≤ rM 41 j
  · have y1 : ¬ (rM 41 j = 0 ∨ rM 41 j = 1) := by
      rintro (q | q) <;> rw [q] at y0 <;> exact absurd y0 (by decide)
    rw [if_neg y1, if_pos y0, if_pos rfl]
  · have y1 : rM 41 j = 0 ∨ rM 41 j = 1 := by
      rw [Int32.le_iff_toInt_le] at y0
      rcases (show (rM 41 j).toInt = 0 ∨ (rM 41 j).toInt = 1 by omega) with q | q
      · exact Or.inl (Int32.toInt_inj.mp (by omega))
      · exact Or.inr (Int32.toInt_inj.mp (by omega))
    rw [if_pos y1, if_neg y0]
    by_cases y2 : 1 < fSt (rM 42 j) (rM 43 j) (rM 65 0) (rM 65 1)
    · rw [if_pos y2, if_pos y2, if_pos rfl]
    rw [if_neg y2, if_neg y2]
    by_cases y3 : 6 < sM 1 - rM 49 j
    · rw [if_pos y3, if_pos y3, if_pos rfl]
    rw [if_neg y3, if_neg y3]
    by_cases y4 : rM 47 j = 0
    · rw [if_pos y4, if_neg (by decide)]
      by_cases y5 : rM 65 4 = 0
      · rw [if_pos y5]
      · rw [if_neg y5, if_pos y4]
    · rw [if_neg y4]
      by_cases y5 : rM 65 4 = 0
      · rw [if_pos y5, if_pos y5, if_neg (by decide)]
      · rw [if_neg y5, if_neg y5, if_neg y4]
        by_cases y6 : rM 47 j = rM 65 4
        · rw [if_pos y6, if_pos y6.symm, if_neg (by decide)]
        · rw [if_neg y6, if_pos rfl, if_neg (fun q => y6 q.symm)]
theorem fF_eq {p q : Nat → Bool} (h : ∀ j, p j = q j) : ∀ n i, fF p n i = fF q n i
  | 0, _ => rfl
  | n + 1, i => by
    unfold fF
    rw [h i, fF_eq h n]
theorem j_mlB (h : jI sC rC sM rM) (hf : jf sC rM) (c : Int32) : jI sC (up2 rC 45 c.toNatClampNeg (mlH c.toNatClampNeg sC rC)) sM (caB c rM) := by
  unfold mlH caB
  rw [c2, h.q.r 45, hf.2.1.2]
  by_cases y : rM 65 2 ≤ rM 45 c.toNatClampNeg
  · rw [if_pos y, if_neg (fun q => by rw [Int32.lt_iff_toInt_lt] at q; rw [Int32.le_iff_toInt_le] at y; omega), up2_id _ _ _ _ (congrFun (h.q.r 45) _)]
    exact h
  · rw [if_neg y, if_pos (by rw [Int32.lt_iff_toInt_lt]; rw [Int32.le_iff_toInt_le] at y; omega)]
    exact jI_up h 45 _ _ rfl trivial
theorem j_mlC (h : jI sC rC sM rM) (hf : jf sC rM) (c : Int32) : jI sC (mlC c.toNatClampNeg sC rC) sM (caC c (caB c rM)) := by
  have hB := j_mlB h hf c
  have o : ∀ f, ¬ f = 45 → caB c rM f = rM f := fun f y => by
    unfold caB
    split
    · rfl
    · exact up2_nn _ _ _ y
  unfold mlC caC
  rw [c3, o 65 (by decide), o 46 (by decide), h.q.r 46, hf.2.2.1.2.1]
  have bj := hf.2.2.1.2.2
  by_cases y : rM 65 3 = -1
  · rw [if_pos y, if_pos y]; exact hB
  rw [if_neg y, if_neg y]
  by_cases y2 : rM 46 c.toNatClampNeg = -1
  · rw [if_pos y2, if_pos y2]; exact jI_up hB 46 _ _ rfl bj
  rw [if_neg y2, if_neg y2]
  by_cases y3 : rM 46 c.toNatClampNeg ≤ rM 65 3
  · rw [if_pos y3, if_pos y3]; exact hB
  · rw [if_neg y3, if_neg y3]; exact jI_up hB 46 _ _ rfl bj
theorem ca_o (c : Int32) (r : Nat → Nat → Int32) {f : Nat} (h1 : ¬ f = 45) (h2 : ¬ f = 46) : caC c (caB c r) f = r f := by
  have o : caB c r f = r f := by
    unfold caB
    split
    · rfl
    · exact up2_nn _ _ _ h1
  unfold caC
  split
  · exact o
  · split
    · rw [up2_nn _ _ _ h2]; exact o
    · split
      · exact o
      · rw [up2_nn _ _ _ h2]; exact o
theorem j_mlD (h : jI sC rC sM rM) (hv : sC 108 = rM 65 4) (c : Int32) : jI sC (mlD c.toNatClampNeg sC rC) sM (caD c rM) := by
  unfold mlD caD
  rw [c4, h.q.r 47, hv]
  by_cases y : rM 47 c.toNatClampNeg = 0
  · rw [if_pos y, if_pos y]; exact jI_up h 47 _ _ rfl trivial
  · rw [if_neg y, if_neg y]; exact h
theorem j_mlE (h : jI sC rC sM rM) (c : Int32) : jI sC (mlE c.toNatClampNeg (sM 1) rC) sM (caE c sM rM) := by
  unfold mlE caE
  rw [h.q.r 48]
  exact jI_up (jI_up h 48 _ _ rfl trivial) 49 _ _ rfl trivial
/-- a call melted into a case -/
theorem j_ml {rA : Nat → Nat → Int32} (h : jI sC rA sM rM) (hf : jf sC rM) (c : Int32) (hA : mlA c.toNatClampNeg sC rC = rA) : jI sC (mlR c.toNatClampNeg (sM 1) sC rC) sM (caE c sM (caD c (caC c (caB c rM)))) := by
  unfold mlR
  rw [hA]
  refine j_mlE (j_mlD (j_mlC h hf c) ?_ c) c
  rw [ca_o c rM (by decide) (by decide)]
  exact hf.2.2.2.1.2
theorem mlA_q (h : jI sC rC sM rM) (hf : jf sC rM) (h0 : ¬ rM 66 0 = 0) (c : Int32) : jI sC (mlA c.toNatClampNeg sC rC) sM (if rM 44 c.toNatClampNeg = 0 then (if rM 66 4 = 0 then up2 (up2 (up2 rM 42 c.toNatClampNeg (rM 65 0)) 43 c.toNatClampNeg (rM 65 1)) 44 c.toNatClampNeg 1 else rM) else rM) := by
  have p := hf.1.2 h0
  unfold mlA
  rw [h.q.r 44, p.1, p.2.1]
  by_cases y : rM 44 c.toNatClampNeg = 0
  · rw [if_pos y, if_pos y]
    by_cases z : rM 66 4 = 0
    · rw [if_pos z, if_pos (hf.2.2.2.2.mp z)]
      exact jI_up (jI_up (jI_up h 42 _ _ rfl p.2.2.1) 43 _ _ rfl p.2.2.2) 44 _ 1 rfl trivial
    · rw [if_neg z, if_neg (fun q => z (hf.2.2.2.2.mpr q))]; exact h
  · rw [if_neg y, if_neg y, ite_self]; exact h
theorem jI_40 (h : jI sC rC sM rM) (x : Int32) (hx : 0 ≤ x.toInt ∧ x.toInt ≤ 200) : jI (upd sC 40 x) rC (upd sM 40 x) rM := by
  obtain ⟨a, b, c, d, e⟩ := h
  exact ⟨qR_s a 40 x, b, c, d, ⟨hx, e.2⟩⟩
theorem jI_39 (h : jI sC rC sM rM) (x : Int32) (hx : (sM 39).toInt ≤ x.toInt ∧ x.toInt ≤ 60) : jI (upd sC 39 x) rC (upd sM 39 x) rM := by
  obtain ⟨a, b, c, d, e⟩ := h
  have b39 := b.2.2.2.2.1
  exact ⟨qR_s a 39 x, ⟨b.1, b.2.1, b.2.2.1, b.2.2.2.1, ⟨by show 0 ≤ x.toInt; omega, hx.2⟩, b.2.2.2.2.2⟩, c, jZ_eq (sM' := upd sM 39 x) (rM' := rM) d rfl hx.1 (fun _ _ => rfl), e⟩
end JCA
