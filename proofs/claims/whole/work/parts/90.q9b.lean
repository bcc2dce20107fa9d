/-! the two readers: numbers -/
theorem den_sp (t : Nat → Int32) (e : Nat) : ∀ n i, (∀ j, i ≤ j → j < den t e n i → ¬ fDi (t j) = 0 ∧ j < e)
  | 0, i, j, h1, h2 => by
    have : den t e 0 i = i := rfl
    omega
  | n + 1, i, j, h1, h2 => by
    unfold den at h2
    by_cases c : e ≤ i
    · rw [if_pos c] at h2; omega
    rw [if_neg c] at h2
    by_cases c2 : fDi (t i) = 0
    · rw [if_pos c2] at h2; omega
    rw [if_neg c2] at h2
    by_cases q : j = i
    · subst q; exact ⟨c2, by omega⟩
    · exact den_sp t e n (i + 1) j (by omega) h2
theorem den_st (t : Nat → Int32) (e : Nat) : ∀ n i, e < i + n → e ≤ den t e n i ∨ fDi (t (den t e n i)) = 0
  | 0, i, h => Or.inl (by show e ≤ i; omega)
  | n + 1, i, h => by
    unfold den
    by_cases c : e ≤ i
    · rw [if_pos c]; exact Or.inl c
    rw [if_neg c]
    by_cases c2 : fDi (t i) = 0
    · rw [if_pos c2]; exact Or.inr c2
    rw [if_neg c2]
    exact den_st t e n (i + 1) (by omega)
theorem den_gt {t : Nat → Int32} {e n i : Nat} (h : i < e) (h2 : ¬ fDi (t i) = 0) : i < den t e (n + 1) i := by
  unfold den
  rw [if_neg (by omega), if_neg h2]
  have := (den_le t e n (i + 1)).1
  omega
theorem di_b {x : Int32} (h : ¬ fDi x = 0) : 48 ≤ x.toInt ∧ x.toInt ≤ 57 := by
  unfold fDi at h
  have z1 : (48 : Int32).toInt = 48 := by decide
  have z2 : (57 : Int32).toInt = 57 := by decide
  by_cases c : x < 48
  · rw [if_pos c] at h; exact absurd rfl h
  rw [if_neg c] at h
  by_cases c2 : 57 < x
  · rw [if_pos c2] at h; exact absurd rfl h
  rw [Int32.lt_iff_toInt_lt] at c c2
  omega
theorem le_di {x : Int32} (h : ¬ fDi x = 0) : fLe x = 0 := by
  have := di_b h
  unfold fLe
  rw [if_pos]
  rw [Int32.lt_iff_toInt_lt]
  have z1 : (97 : Int32).toInt = 97 := by decide
  omega
theorem b8_d {x : Int32} (h : ¬ fDi x = 0) : x.toInt8.toInt32 = x := by
  have a := di_b h
  have b := t_ix (x := x) (by omega)
  have c := b8_id x.toNatClampNeg (by omega)
  rw [t_ixn (by omega)] at c
  exact c
/-- one digit more -/
theorem dg_s {v x : Int32} (hv : 0 ≤ v.toInt ∧ v.toInt ≤ 99) (hx : 48 ≤ x.toInt ∧ x.toInt ≤ 57) : (10 * v + x - 48).toInt = 10 * v.toInt + (x.toInt - 48) ∧ v * 10 + x - 48 = 10 * v + x - 48 := by
  have z10 : (10 : Int32).toInt = 10 := by decide
  have z48 : (48 : Int32).toInt = 48 := by decide
  have e1 : (10 * v).toInt = 10 * v.toInt := by rw [Int32.toInt_mul, z10, Int.bmod_eq_of_le (by omega) (by omega)]
  have e2 : (10 * v + x).toInt = 10 * v.toInt + x.toInt := by rw [t_add (by omega) (by omega), e1]
  refine ⟨?_, by rw [Int32.mul_comm]⟩
  rw [t_sub (by omega) (by omega), e2, z48]
  omega
def nv (t : Nat → Int32) (a : Nat) : Nat → Int32
  | 0 => 0
  | n + 1 => 10 * nv t a n + t (a + n) - 48
theorem nv_b {t : Nat → Int32} {a : Nat} : ∀ n, n ≤ 3 → (∀ j, j < n → ¬ fDi (t (a + j)) = 0) → 0 ≤ (nv t a n).toInt ∧ (nv t a n).toInt < 10 ^ n
  | 0, _, _ => by show 0 ≤ (0 : Int32).toInt ∧ (0 : Int32).toInt < 10 ^ 0; decide
  | n + 1, hn, h => by
    have ih := nv_b n (by omega) (fun j hj => h j (by omega))
    have p : (10 : Int) ^ n ≤ 100 := by
      rcases (show n = 0 ∨ n = 1 ∨ n = 2 by omega) with q | q | q <;> subst q <;> decide
    have d := dg_s (v := nv t a n) (x := t (a + n)) ⟨ih.1, by omega⟩ (di_b (h n (by omega)))
    have db := di_b (h n (by omega))
    unfold nv
    rw [d.1]
    refine ⟨by omega, ?_⟩
    rw [Int.pow_succ]
    omega
theorem nv_val {t : Nat → Int32} {a d : Nat} : ∀ (k n i : Nat), a + i + k = d → k < n → d ≤ a + 3 → (∀ j, a ≤ j → j < d → ¬ fDi (t j) = 0) → valF t d n (a + i) (nv t a i) = nv t a (i + k)
  | 0, n, i, h, hn, hd, hs => by
    cases n with
    | zero => omega
    | succ n => unfold valF; rw [if_pos (by omega)]; rfl
  | k + 1, n, i, h, hn, hd, hs => by
    cases n with
    | zero => omega
    | succ n =>
      unfold valF
      rw [if_neg (by omega)]
      have b := nv_b (t := t) (a := a) i (by omega) (fun j hj => hs (a + j) (by omega) (by omega))
      have p : (10 : Int) ^ i ≤ 100 := by
        rcases (show i = 0 ∨ i = 1 ∨ i = 2 by omega) with q | q | q <;> subst q <;> decide
      have dd := dg_s (v := nv t a i) (x := t (a + i)) ⟨b.1, by omega⟩ (di_b (hs (a + i) (by omega) (by omega)))
      rw [dd.2]
      have ih := nv_val k n (i + 1) (by omega) (by omega) hd hs
      rw [show i + (k + 1) = i + 1 + k from by omega]
      exact ih
theorem nv_nm {t : Nat → Int32} {e a d : Nat} (hst : e ≤ d ∨ fDi (t d) = 0) (hde : d ≤ e) : ∀ (k n i : Nat), a + i + k = d → k < n → d ≤ a + 3 → (∀ j, a ≤ j → j < d → ¬ fDi (t j) = 0 ∧ j < e) → nmR t e a n (a + i) (nv t a i) = (true, d, nv t a (i + k))
  | 0, n, i, h, hn, hd, hs => by
    have ed : a + i = d := by omega
    cases n with
    | zero => omega
    | succ n =>
      unfold nmR
      rw [ed]
      rcases hst with q | q
      · rw [if_pos q]; rfl
      · by_cases c : e ≤ d
        · rw [if_pos c]; rfl
        · rw [if_neg c, if_pos q]; rfl
  | k + 1, n, i, h, hn, hd, hs => by
    cases n with
    | zero => omega
    | succ n =>
      have s := hs (a + i) (by omega) (by omega)
      unfold nmR
      rw [if_neg (by omega), if_neg s.1, if_neg (by omega)]
      have ih := nv_nm hst hde k n (i + 1) (by omega) (by omega) hd hs
      rw [show i + (k + 1) = i + 1 + k from by omega]
      exact ih
theorem nv_no {t : Nat → Int32} {e a : Nat} (hs : ∀ j, a ≤ j → j < a + 4 → ¬ fDi (t j) = 0 ∧ j < e) : (nmR t e a 5 a 0).1 = false := by
  have s0 := hs a (by omega) (by omega)
  have s1 := hs (a + 1) (by omega) (by omega)
  have s2 := hs (a + 1 + 1) (by omega) (by omega)
  have s3 := hs (a + 1 + 1 + 1) (by omega) (by omega)
  unfold nmR
  rw [if_neg (by omega), if_neg s0.1, if_neg (by omega)]
  unfold nmR
  rw [if_neg (by omega), if_neg s1.1, if_neg (by omega)]
  unfold nmR
  rw [if_neg (by omega), if_neg s2.1, if_neg (by omega)]
  unfold nmR
  rw [if_neg (by omega), if_neg s3.1, if_pos (by omega)]
section JNU
variable {sC sM : Nat → Int32} {rC rM : Nat → Nat → Int32} {e p : Nat}
/-- the same number is read, or none -/
theorem jp_n (h : jp sC rC sM rM e p) (lo hi : Int32) : (okN lo hi sM rM = 0 ∧ rnV lo hi sC rC = -1) ∨ (okN lo hi sM rM = 1 ∧ 0 ≤ ((nmb sM rM).2.2).toInt ∧ rnV lo hi sC rC = (nmb sM rM).2.2 ∧ (lo.toInt ≤ ((nmb sM rM).2.2).toInt ∧ ((nmb sM rM).2.2).toInt ≤ hi.toInt) ∧ kBh sC rC (kBg sC rC) = (nmb sM rM).2.1 ∧ (nmb sM rM).2.1 ≤ e ∧ fDi (vSg sM rM) = 1) := by
  have q := h.2.2.1
  have bb := h.be
  have rm : vVa (adS sC rC) rC = -1 → rnV lo hi sC rC = -1 := fun y => by
    unfold rnV kNw
    rw [y, if_pos rfl, if_pos rfl]
  have hV : vVa (adS sC rC) rC = if kKd sC rC (aSg sM rM) = 2 then (if nI (kBh sC rC (aSg sM rM)) - nI (aSg sM rM) ≤ 3 then valF (kB8 rC) (nI (kBh sC rC (aSg sM rM))).toNatClampNeg (1 + (nI (kBh sC rC (aSg sM rM))).toNatClampNeg) (nI (aSg sM rM)).toNatClampNeg 0 else -1) else -1 := by
    unfold vVa
    rw [ad_101, ad_102, ad_103, h.b]
  rw [h.b]
  unfold okN nmb vSg
  rw [h.te]
  generalize hb : aSg sM rM = b at *
  unfold kKd kBh at hV
  unfold kBh
  rw [h.tl, h.1] at hV ⊢
  by_cases c0 : e ≤ b
  · left
    rw [if_pos c0, if_neg (by decide)] at hV
    rw [if_pos c0, if_pos (by decide)]
    exact ⟨rfl, rm hV⟩
  rw [if_neg c0, if_neg c0] at hV
  rw [if_neg c0, if_neg c0]
  by_cases c1 : fDi (rM 60 b) = 0
  · left
    rw [if_pos c1]
    refine ⟨rfl, rm ?_⟩
    by_cases c2 : fLe (rM 60 b) = 0
    · rw [if_pos c2, if_pos c1, if_neg (by decide)] at hV; exact hV
    · rw [if_neg c2, if_neg (by decide)] at hV; exact hV
  have fl := le_di c1
  rw [if_pos fl, if_pos fl, if_neg c1, if_neg c1, if_pos rfl] at hV
  rw [if_neg c1, if_pos fl, if_neg c1]
  have g := den_gt (n := e) (t := rM 60) (e := e) (i := b) (by omega) c1
  rw [Nat.add_comm e 1] at g
  have hle := (den_le (rM 60) e (1 + e) b).2 (by omega)
  have sp := den_sp (rM 60) e (1 + e) b
  have st := den_st (rM 60) e (1 + e) b (by omega)
  generalize den (rM 60) e (1 + e) b = d at *
  have es : nI d - nI b = nI (d - b) := by
    apply Int32.toInt_inj.mp
    have a1 := nI_toInt (n := d) (by omega)
    have a2 := nI_toInt (n := b) (by omega)
    have a3 := nI_toInt (n := d - b) (by omega)
    rw [t_sub (by omega) (by omega)]
    omega
  rw [es, show (3 : Int32) = nI 3 from by decide] at hV
  by_cases c3 : d - b ≤ 3
  · have hn := nv_nm (t := rM 60) (e := e) (a := b) (d := d) st hle (d - b) 5 0 (by omega) (by omega) (by omega) sp
    rw [Nat.zero_add] at hn
    have hn' : nmR (rM 60) e b 5 b 0 = (true, d, nv (rM 60) b (d - b)) := hn
    have hb3 := nv_b (t := rM 60) (a := b) (d - b) c3 (fun j hj => (sp (b + j) (by omega) (by omega)).1)
    have hkb : ∀ j, b ≤ j → j < d → kB8 rC j = rM 60 j := fun j h1 h2 => by
      unfold kB8
      rw [h.1]
      exact b8_d (sp j h1 h2).1
    have hnv : ∀ n, n ≤ d - b → nv (kB8 rC) b n = nv (rM 60) b n := by
      intro n
      induction n with
      | zero => intro _; rfl
      | succ n ih =>
        intro hn2
        unfold nv
        rw [ih (by omega), hkb (b + n) (by omega) (by omega)]
    have hv := nv_val (t := kB8 rC) (a := b) (d := d) (d - b) (1 + d) 0 (by omega) (by omega) (by omega) (fun j h1 h2 => by rw [hkb j h1 h2]; exact (sp j h1 h2).1)
    rw [Nat.zero_add, hnv _ (Nat.le_refl _)] at hv
    have hv' : valF (kB8 rC) d (1 + d) b 0 = nv (rM 60) b (d - b) := hv
    rw [if_pos ((nle (by omega) (by omega)).mpr c3), ix_nI (by omega), ix_nI (by omega), hv'] at hV
    rw [hn']
    unfold rnV kNw
    rw [hV]
    have ne1 : ¬ nv (rM 60) b (d - b) = -1 := fun y => by
      have := hb3.1
      rw [y] at this
      exact absurd this (by decide)
    rw [if_neg ne1]
    have fd1 : fDi (rM 60 b) = 1 := by
      unfold fDi at c1 ⊢
      by_cases y : rM 60 b < 48
      · rw [if_pos y] at c1; exact absurd rfl c1
      rw [if_neg y] at c1 ⊢
      by_cases y2 : 57 < rM 60 b
      · rw [if_pos y2] at c1; exact absurd rfl c1
      · rw [if_neg y2]
    show ((if (true : Bool) = true then (if nv (rM 60) b (d - b) < lo then (0 : Int32) else if nv (rM 60) b (d - b) ≤ hi then 1 else 0) else 0) = 0 ∧ (if (if fIn (nv (rM 60) b (d - b)) lo hi = 0 then (0 : Int32) else 1) = 0 then -1 else nv (rM 60) b (d - b)) = -1) ∨ ((if (true : Bool) = true then (if nv (rM 60) b (d - b) < lo then (0 : Int32) else if nv (rM 60) b (d - b) ≤ hi then 1 else 0) else 0) = 1 ∧ 0 ≤ (nv (rM 60) b (d - b)).toInt ∧ (if (if fIn (nv (rM 60) b (d - b)) lo hi = 0 then (0 : Int32) else 1) = 0 then -1 else nv (rM 60) b (d - b)) = nv (rM 60) b (d - b) ∧ (lo.toInt ≤ (nv (rM 60) b (d - b)).toInt ∧ (nv (rM 60) b (d - b)).toInt ≤ hi.toInt) ∧ d = d ∧ d ≤ e ∧ fDi (rM 60 b) = 1)
    rw [if_pos rfl]
    unfold fIn
    by_cases y1 : nv (rM 60) b (d - b) < lo
    · left
      rw [if_pos y1, if_pos y1, if_pos rfl, if_pos rfl]
      exact ⟨rfl, rfl⟩
    rw [if_neg y1, if_neg y1]
    by_cases y2 : nv (rM 60) b (d - b) ≤ hi
    · right
      have y3 : ¬ hi < nv (rM 60) b (d - b) := fun y => by rw [Int32.lt_iff_toInt_lt] at y; rw [Int32.le_iff_toInt_le] at y2; omega
      rw [if_pos y2, if_neg y3, if_neg (show ¬ (1 : Int32) = 0 by decide), if_neg (show ¬ (1 : Int32) = 0 by decide)]
      rw [Int32.lt_iff_toInt_lt] at y1
      rw [Int32.le_iff_toInt_le] at y2
      exact ⟨rfl, hb3.1, rfl, ⟨by omega, y2⟩, rfl, hle, fd1⟩
    · left
      have y3 : hi < nv (rM 60) b (d - b) := by rw [Int32.lt_iff_toInt_lt]; rw [Int32.le_iff_toInt_le] at y2; omega
      rw [if_neg y2, if_pos y3, if_pos rfl, if_pos rfl]
      exact ⟨rfl, rfl⟩
  · left
    have hf := nv_no (t := rM 60) (e := e) (a := b) (fun j h1 h2 => sp j h1 (by omega))
    rw [if_neg (fun y => c3 ((nle (by omega) (by omega)).mp y))] at hV
    rw [hf, if_neg (by decide)]
    exact ⟨rfl, rm hV⟩
end JNU
