/-! Koenig and Ore: the greatest matching is the least of (cases outside of a set) + (keepers who could go into it) -/
def kCn (p : Nat → Bool) : Nat → Nat
  | 0 => 0
  | n + 1 => kCn p n + (if p n = true then 1 else 0)
theorem kCn_s (p : Nat → Bool) (n : Nat) : kCn p (n + 1) = kCn p n + (if p n = true then 1 else 0) := rfl
theorem kCn_t {p : Nat → Bool} {n : Nat} (h : p n = true) : kCn p (n + 1) = kCn p n + 1 := by rw [kCn_s, if_pos h]
theorem kCn_f {p : Nat → Bool} {n : Nat} (h : ¬ p n = true) : kCn p (n + 1) = kCn p n := by rw [kCn_s, if_neg h, Nat.add_zero]
theorem kCn_le (p : Nat → Bool) : ∀ n, kCn p n ≤ n := by
  intro n
  induction n with
  | zero => exact Nat.le_refl _
  | succ n ih =>
    by_cases h : p n = true
    · rw [kCn_t h]; omega
    · rw [kCn_f h]; omega
theorem kCn_mono {p q : Nat → Bool} : ∀ n, (∀ j, j < n → p j = true → q j = true) → kCn p n ≤ kCn q n := by
  intro n
  induction n with
  | zero => intro _; exact Nat.le_refl _
  | succ n ih =>
    intro h
    have h1 := ih (fun j hj => h j (by omega))
    by_cases hp : p n = true
    · rw [kCn_t hp, kCn_t (h n (by omega) hp)]; omega
    · rw [kCn_f hp, kCn_s]; omega
theorem kCn_eq {p q : Nat → Bool} {n : Nat} (h : ∀ j, j < n → p j = q j) : kCn p n = kCn q n :=
  Nat.le_antisymm (kCn_mono n (fun j hj e => by rw [← h j hj]; exact e)) (kCn_mono n (fun j hj e => by rw [h j hj]; exact e))
theorem kCn_or (p q : Nat → Bool) : ∀ n, kCn (fun j => p j || q j) n + kCn (fun j => p j && q j) n = kCn p n + kCn q n := by
  intro n
  induction n with
  | zero => rfl
  | succ n ih =>
    rw [kCn_s, kCn_s, kCn_s p, kCn_s q]
    cases hp : p n <;> cases hq : q n <;> simp [hp, hq] <;> omega
theorem kCn_lt {p q : Nat → Bool} {k : Nat} (hq : q k = true) (hp : ¬ p k = true) : ∀ n, k < n → (∀ j, j < n → p j = true → q j = true) → kCn p n + 1 ≤ kCn q n := by
  intro n
  induction n with
  | zero => intro h; omega
  | succ n ih =>
    intro hk h
    by_cases e : k = n
    · subst e
      rw [kCn_f hp, kCn_t hq]
      have := kCn_mono k (fun j hj => h j (by omega))
      omega
    · have h1 := ih (by omega) (fun j hj => h j (by omega))
      by_cases hn : p n = true
      · rw [kCn_t hn, kCn_t (h n (by omega) hn)]; omega
      · rw [kCn_f hn, kCn_s]; omega
theorem kCn_but {p q : Nat → Bool} {k : Nat} : ∀ n, (∀ j, j < n → ¬ j = k → q j = true → p j = true) → kCn q n ≤ kCn p n + 1 := by
  intro n
  induction n with
  | zero => intro _; exact Nat.zero_le _
  | succ n ih =>
    intro h
    by_cases e : n = k
    · have h1 : kCn q n ≤ kCn p n := kCn_mono n (fun j hj => h j (by omega) (by omega))
      have h2 : kCn q (n + 1) ≤ kCn q n + 1 := by
        by_cases hq : q n = true
        · rw [kCn_t hq]; omega
        · rw [kCn_f hq]; omega
      have h3 : kCn p n ≤ kCn p (n + 1) := by rw [kCn_s]; omega
      omega
    · have h1 := ih (fun j hj => h j (by omega))
      by_cases hq : q n = true
      · rw [kCn_t hq, kCn_t (h n (by omega) e hq)]; omega
      · rw [kCn_f hq, kCn_s]; omega
def kNb (N : Nat → Nat → Bool) (S : Nat → Bool) : Nat → Nat → Bool
  | 0, _ => false
  | i + 1, k => kNb N S i k || (S i && N i k)
theorem kNb_eq {N : Nat → Nat → Bool} {S S' : Nat → Bool} : ∀ i, (∀ j, j < i → S j = S' j) → ∀ k, kNb N S i k = kNb N S' i k := by
  intro i
  induction i with
  | zero => intro _ _; rfl
  | succ i ih =>
    intro h k
    show (kNb N S i k || (S i && N i k)) = (kNb N S' i k || (S' i && N i k))
    rw [ih (fun j hj => h j (by omega)) k, h i (by omega)]
theorem kNb_or {N : Nat → Nat → Bool} (S S' : Nat → Bool) : ∀ i k, kNb N (fun j => S j || S' j) i k = (kNb N S i k || kNb N S' i k) := by
  intro i
  induction i with
  | zero => intro _; rfl
  | succ i ih =>
    intro k
    show (kNb N (fun j => S j || S' j) i k || ((S i || S' i) && N i k)) = ((kNb N S i k || (S i && N i k)) || (kNb N S' i k || (S' i && N i k)))
    rw [ih k]
    cases kNb N S i k <;> cases kNb N S' i k <;> cases S i <;> cases S' i <;> cases N i k <;> rfl
theorem kNb_and {N : Nat → Nat → Bool} (S S' : Nat → Bool) : ∀ i k, kNb N (fun j => S j && S' j) i k = true → kNb N S i k = true ∧ kNb N S' i k = true := by
  intro i
  induction i with
  | zero => intro _ h; exact absurd (show false = true from h) (by decide)
  | succ i ih =>
    intro k h
    have h' : (kNb N (fun j => S j && S' j) i k || ((S i && S' i) && N i k)) = true := h
    show (kNb N S i k || (S i && N i k)) = true ∧ (kNb N S' i k || (S' i && N i k)) = true
    rw [Bool.or_eq_true] at h'
    rcases h' with h' | h'
    · have := ih k h'
      rw [this.1, this.2]; exact ⟨rfl, rfl⟩
    · revert h'
      cases S i <;> cases S' i <;> cases N i k <;> simp
def kF (N : Nat → Nat → Bool) (K i : Nat) (T S : Nat → Bool) : Nat := kCn (fun k => T k && kNb N S i k) K + (i - kCn S i)
theorem kF_sub (N : Nat → Nat → Bool) (K i : Nat) (T S S' : Nat → Bool) : kF N K i T (fun j => S j || S' j) + kF N K i T (fun j => S j && S' j) ≤ kF N K i T S + kF N K i T S' := by
  have h1 := kCn_or S S' i
  have h2 := kCn_or (fun k => T k && kNb N S i k) (fun k => T k && kNb N S' i k) K
  have h3 : kCn (fun k => T k && kNb N (fun j => S j || S' j) i k) K ≤ kCn (fun k => (T k && kNb N S i k) || (T k && kNb N S' i k)) K := kCn_mono K (fun j _ h => by
    have h' : (T j && kNb N (fun j => S j || S' j) i j) = true := h
    show ((T j && kNb N S i j) || (T j && kNb N S' i j)) = true
    rw [kNb_or] at h'
    revert h'
    cases T j <;> cases kNb N S i j <;> cases kNb N S' i j <;> simp)
  have h4 : kCn (fun k => T k && kNb N (fun j => S j && S' j) i k) K ≤ kCn (fun k => (T k && kNb N S i k) && (T k && kNb N S' i k)) K := kCn_mono K (fun j _ h => by
    have h' : (T j && kNb N (fun j => S j && S' j) i j) = true := h
    show ((T j && kNb N S i j) && (T j && kNb N S' i j)) = true
    rw [Bool.and_eq_true] at h'
    have h9 := kNb_and S S' i j h'.2
    rw [h'.1, h9.1, h9.2]; rfl)
  have l1 := kCn_le S i
  have l2 := kCn_le S' i
  have l3 := kCn_le (fun j => S j || S' j) i
  have l4 := kCn_le (fun j => S j && S' j) i
  unfold kF
  omega
def kRm (T : Nat → Bool) (k : Nat) : Nat → Bool := fun j => T j && !(j == k)
theorem kRm_s (T : Nat → Bool) (k : Nat) : kRm T k k = false := by simp [kRm]
theorem kRm_n (T : Nat → Bool) {j k : Nat} (h : ¬ j = k) : kRm T k j = T j := by simp [kRm, h]
theorem kRm_le {T : Nat → Bool} {k j : Nat} (h : kRm T k j = true) : T j = true := by
  unfold kRm at h; rw [Bool.and_eq_true] at h; exact h.1
def kMx (f : Nat → Nat) (p : Nat → Bool) : Nat → Nat
  | 0 => 0
  | n + 1 => if p n = true then max (kMx f p n) (f n + 1) else kMx f p n
theorem kMx_ge {f : Nat → Nat} {p : Nat → Bool} {k : Nat} (hp : p k = true) : ∀ n, k < n → f k + 1 ≤ kMx f p n := by
  intro n
  induction n with
  | zero => intro h; omega
  | succ n ih =>
    intro h
    unfold kMx
    by_cases e : k = n
    · subst e; rw [if_pos hp]; omega
    · have := ih (by omega)
      split <;> omega
theorem kMx_ex {f : Nat → Nat} {p : Nat → Bool} : ∀ n, kMx f p n = 0 ∨ ∃ k, k < n ∧ p k = true ∧ kMx f p n = f k + 1 := by
  intro n
  induction n with
  | zero => exact Or.inl rfl
  | succ n ih =>
    by_cases hp : p n = true
    · have e : kMx f p (n + 1) = max (kMx f p n) (f n + 1) := by show (if p n = true then _ else _) = _; rw [if_pos hp]
      rw [e]
      by_cases h : kMx f p n ≤ f n + 1
      · exact Or.inr ⟨n, by omega, hp, by omega⟩
      · rcases ih with h0 | ⟨k, h1, h2, h3⟩
        · omega
        · exact Or.inr ⟨k, by omega, h2, by omega⟩
    · have e : kMx f p (n + 1) = kMx f p n := by show (if p n = true then _ else _) = _; rw [if_neg hp]
      rw [e]
      rcases ih with h0 | ⟨k, h1, h2, h3⟩
      · exact Or.inl h0
      · exact Or.inr ⟨k, by omega, h2, h3⟩
def kR (N : Nat → Nat → Bool) (K : Nat) : Nat → (Nat → Bool) → Nat
  | 0, _ => 0
  | i + 1, T => max (kR N K i T) (kMx (fun k => kR N K i (kRm T k)) (fun k => N i k && T k) K)
theorem kR_s (N : Nat → Nat → Bool) (K i : Nat) (T : Nat → Bool) : kR N K (i + 1) T = max (kR N K i T) (kMx (fun k => kR N K i (kRm T k)) (fun k => N i k && T k) K) := rfl
theorem kKO_a {N : Nat → Nat → Bool} {K i : Nat} (ih : ∀ T S, kR N K i T ≤ kF N K i T S) (T S : Nat → Bool) : kR N K (i + 1) T ≤ kF N K (i + 1) T S := by
  have hc : kCn (fun k => T k && kNb N S i k) K ≤ kCn (fun k => T k && kNb N S (i + 1) k) K := kCn_mono K (fun j _ h => by
    have h' : (T j && kNb N S i j) = true := h
    show (T j && (kNb N S i j || (S i && N i j))) = true
    rw [Bool.and_eq_true] at h'
    rw [h'.1, h'.2]; rfl)
  have hl := kCn_le S i
  have i1 := ih T S
  unfold kF at i1
  have p1 : kR N K i T ≤ kF N K (i + 1) T S := by
    unfold kF
    by_cases hs : S i = true
    · rw [kCn_t hs]; omega
    · rw [kCn_f hs]; omega
  have p2 : kMx (fun k => kR N K i (kRm T k)) (fun k => N i k && T k) K ≤ kF N K (i + 1) T S := by
    rcases kMx_ex (f := fun k => kR N K i (kRm T k)) (p := fun k => N i k && T k) K with h0 | ⟨k, h1, h2, h3⟩
    · rw [h0]; exact Nat.zero_le _
    · rw [h3]
      have h2' : (N i k && T k) = true := h2
      rw [Bool.and_eq_true] at h2'
      have i2 := ih (kRm T k) S
      unfold kF at i2 ⊢
      have hm : kCn (fun j => kRm T k j && kNb N S i j) K ≤ kCn (fun j => T j && kNb N S i j) K := kCn_mono K (fun j _ h => by
        have h' : (kRm T k j && kNb N S i j) = true := h
        rw [Bool.and_eq_true] at h'
        show (T j && kNb N S i j) = true
        rw [kRm_le h'.1, h'.2]; rfl)
      show kR N K i (kRm T k) + 1 ≤ _
      by_cases hs : S i = true
      · have hx : kCn (fun j => kRm T k j && kNb N S i j) K + 1 ≤ kCn (fun j => T j && kNb N S (i + 1) j) K := kCn_lt (k := k) (by show (T k && (kNb N S i k || (S i && N i k))) = true; rw [h2'.2, hs, h2'.1]; simp) (by show ¬ (kRm T k k && _) = true; rw [kRm_s]; simp) K h1 (fun j _ h => by
          have h' : (kRm T k j && kNb N S i j) = true := h
          rw [Bool.and_eq_true] at h'
          show (T j && (kNb N S i j || (S i && N i j))) = true
          rw [kRm_le h'.1, h'.2]; rfl)
        rw [kCn_t hs]; omega
      · rw [kCn_f hs]; omega
  rw [kR_s]
  omega
theorem kKO_l {N : Nat → Nat → Bool} {K i : Nat} {T : Nat → Bool} (ia : ∀ T S, kR N K i T ≤ kF N K i T S) (ib : ∀ T, ∃ S, kF N K i T S ≤ kR N K i T) (hB : ∀ k, k < K → N i k = true → T k = true → kR N K i (kRm T k) < kR N K i T) : ∀ m, m ≤ K → ∃ S, kF N K i T S ≤ kR N K i T ∧ ∀ k, k < m → N i k = true → T k = true → kNb N S i k = true := by
  intro m
  induction m with
  | zero => intro _; obtain ⟨S, hS⟩ := ib T; exact ⟨S, hS, fun k hk => absurd hk (Nat.not_lt_zero k)⟩
  | succ m ih =>
    intro hm
    obtain ⟨S, hS, hc⟩ := ih (by omega)
    by_cases hk : N i m = true ∧ T m = true
    · obtain ⟨S2, hS2⟩ := ib (kRm T m)
      have hb := hB m (by omega) hk.1 hk.2
      have hT := ia T S2
      have hn : kNb N S2 i m = true := by
        by_cases e : kNb N S2 i m = true
        · exact e
        · have : kF N K i T S2 ≤ kF N K i (kRm T m) S2 := by
            unfold kF
            have := kCn_mono (p := fun k => T k && kNb N S2 i k) (q := fun k => kRm T m k && kNb N S2 i k) K (fun j _ h => by
              have h' : (T j && kNb N S2 i j) = true := h
              rw [Bool.and_eq_true] at h'
              have hne : ¬ j = m := fun z => e (z ▸ h'.2)
              show (kRm T m j && kNb N S2 i j) = true
              rw [kRm_n T hne, h'.1, h'.2]; rfl)
            omega
          omega
      have h2 : kF N K i T S2 ≤ kF N K i (kRm T m) S2 + 1 := by
        unfold kF
        have := kCn_but (k := m) (q := fun k => T k && kNb N S2 i k) (p := fun k => kRm T m k && kNb N S2 i k) K (fun j _ hne h => by
          have h' : (T j && kNb N S2 i j) = true := h
          show (kRm T m j && kNb N S2 i j) = true
          rw [kRm_n T hne]; exact h')
        omega
      have hs := kF_sub N K i T S S2
      have hi := ia T (fun j => S j && S2 j)
      refine ⟨fun j => S j || S2 j, by omega, fun k hkm hN hTk => ?_⟩
      rw [kNb_or]
      by_cases e : k = m
      · subst e; rw [hn]; simp
      · rw [hc k (by omega) hN hTk]; rfl
    · refine ⟨S, hS, fun k hkm hN hTk => ?_⟩
      by_cases e : k = m
      · subst e; exact absurd ⟨hN, hTk⟩ hk
      · exact hc k (by omega) hN hTk
theorem kKO {N : Nat → Nat → Bool} {K : Nat} : ∀ i, (∀ T S, kR N K i T ≤ kF N K i T S) ∧ (∀ T, ∃ S, kF N K i T S ≤ kR N K i T) := by
  intro i
  induction i with
  | zero =>
    refine ⟨fun T S => Nat.zero_le _, fun T => ⟨fun _ => false, ?_⟩⟩
    show kCn (fun k => T k && false) K + (0 - 0) ≤ 0
    have : kCn (fun k => T k && false) K ≤ kCn (fun _ => false) K := kCn_mono K (fun j _ h => by
      have h' : (T j && false) = true := h
      rw [Bool.and_false] at h'
      exact h')
    have h0 : ∀ n, kCn (fun _ => false) n = 0 := by
      intro n
      induction n with
      | zero => rfl
      | succ n ih => rw [kCn_f (by decide)]; exact ih
    rw [h0] at this
    omega
  | succ i ih =>
    refine ⟨kKO_a ih.1, fun T => ?_⟩
    by_cases hA : ∃ k, k < K ∧ N i k = true ∧ T k = true ∧ kR N K i T ≤ kR N K i (kRm T k)
    · obtain ⟨k, h1, h2, h3, h4⟩ := hA
      obtain ⟨S, hS⟩ := ih.2 T
      refine ⟨fun j => if j = i then false else S j, ?_⟩
      have hm := kMx_ge (f := fun k => kR N K i (kRm T k)) (p := fun k => N i k && T k) (k := k) (by show (N i k && T k) = true; rw [h2, h3]; rfl) K h1
      have e1 : kCn (fun j => if j = i then false else S j) i = kCn S i := kCn_eq (fun j hj => if_neg (by omega))
      have e2 : ∀ k, kNb N (fun j => if j = i then false else S j) (i + 1) k = kNb N S i k := fun k => by
        show (kNb N _ i k || ((if i = i then false else S i) && N i k)) = _
        rw [if_pos rfl, kNb_eq i (S' := S) (fun j hj => if_neg (by omega)) k]
        simp
      have e3 : kCn (fun k => T k && kNb N (fun j => if j = i then false else S j) (i + 1) k) K = kCn (fun k => T k && kNb N S i k) K := kCn_eq (fun j _ => by show (T j && _) = (T j && _); rw [e2])
      have e4 : kCn (fun j => if j = i then false else S j) (i + 1) = kCn S i := by rw [kCn_f (by show ¬ (if i = i then false else S i) = true; rw [if_pos rfl]; decide), e1]
      rw [kR_s]
      unfold kF at hS ⊢
      rw [e3, e4]
      have : kR N K i (kRm T k) + 1 ≤ kMx (fun k => kR N K i (kRm T k)) (fun k => N i k && T k) K := hm
      have := kCn_le S i
      omega
    · have hB : ∀ k, k < K → N i k = true → T k = true → kR N K i (kRm T k) < kR N K i T := fun k h1 h2 h3 => Nat.lt_of_not_le (fun h4 => hA ⟨k, h1, h2, h3, h4⟩)
      obtain ⟨S, hS, hc⟩ := kKO_l ih.1 ih.2 hB K (Nat.le_refl _)
      refine ⟨fun j => if j = i then true else S j, ?_⟩
      have e1 : kCn (fun j => if j = i then true else S j) i = kCn S i := kCn_eq (fun j hj => if_neg (by omega))
      have e2 : ∀ k, k < K → (T k && kNb N (fun j => if j = i then true else S j) (i + 1) k) = (T k && kNb N S i k) := fun k hk => by
        show (T k && (kNb N _ i k || ((if i = i then true else S i) && N i k))) = _
        rw [if_pos rfl, kNb_eq i (S' := S) (fun j hj => if_neg (by omega)) k]
        cases hT : T k
        · rfl
        · cases hN : N i k
          · simp
          · rw [hc k hk hN hT]; rfl
      have e3 : kCn (fun k => T k && kNb N (fun j => if j = i then true else S j) (i + 1) k) K = kCn (fun k => T k && kNb N S i k) K := kCn_eq (fun j hj => e2 j hj)
      have e4 : kCn (fun j => if j = i then true else S j) (i + 1) = kCn S i + 1 := by rw [kCn_t (by show (if i = i then true else S i) = true; rw [if_pos rfl]), e1]
      rw [kR_s]
      unfold kF at hS ⊢
      rw [e3, e4]
      have := kCn_le S i
      omega
