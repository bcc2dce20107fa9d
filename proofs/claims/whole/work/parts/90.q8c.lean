/-! the least cover of the class; most -/
theorem kbc_a : ∀ a, a < 64 → ∀ b, b < 64 → kBc (nI (64 * a + b)) = nI (pcN 12 (64 * a + b)) := by decide +kernel
theorem kbc_0 (x : Nat) (h : x < 4096) : kBc (nI x) = nI (pcN 12 x) := by
  have := kbc_a (x / 64) (by omega) (x % 64) (by omega)
  rw [Nat.div_add_mod] at this
  exact this
theorem kCn_x {p : Nat → Bool} (n : Nat) : ∀ d, (∀ k, n ≤ k → p k = false) → kCn p (n + d) = kCn p n
  | 0, _ => rfl
  | d + 1, h => by
    show kCn p ((n + d) + 1) = _
    rw [kCn_f (by rw [h (n + d) (by omega)]; decide)]
    exact kCn_x n d h
def gmU (B : Nat → Nat) (S : Nat → Bool) : Nat → Nat
  | 0 => 0
  | n + 1 => if S n = true then gmU B S n ||| B n else gmU B S n
theorem gmU_lt {B : Nat → Nat} {S : Nat → Bool} {K : Nat} (h : ∀ i, B i < 2 ^ K) : ∀ n, gmU B S n < 2 ^ K
  | 0 => Nat.two_pow_pos K
  | n + 1 => by
    unfold gmU
    split
    · exact Nat.or_lt_two_pow (gmU_lt h n) (h n)
    · exact gmU_lt h n
theorem gmU_bit {N : Nat → Nat → Bool} {B : Nat → Nat} {S : Nat → Bool} {K : Nat} (h : ∀ i k, (B i).testBit k = (decide (k < K) && N i k)) : ∀ n k, (gmU B S n).testBit k = (decide (k < K) && kNb N S n k)
  | 0, k => by simp [gmU, kNb]
  | n + 1, k => by
    unfold gmU kNb
    by_cases c : S n = true
    · rw [if_pos c, Nat.testBit_or, gmU_bit h n k, h n k, c]
      cases decide (k < K) <;> simp
    · have c' : S n = false := by simpa using c
      rw [if_neg c, gmU_bit h n k, c']
      simp
theorem gmI_s {r : Nat → Nat → Int32} {B : Nat → Nat} {m X : Nat} (hm : m ≤ 8) (hX : X < 4096) (hr : ∀ i, i < m → r 100 i = nI (B i)) : ∀ n, n ≤ m → gmI r (nI m) (nI X) n = (nI (m - kCn (fun k => X.testBit k) n), nI (gmU B (fun k => X.testBit k) n))
  | 0, _ => rfl
  | n + 1, hn => by
    unfold gmI gmU
    rw [gmI_s hm hX hr n (by omega), n_bit hX (by omega)]
    have l := kCn_le (fun k => X.testBit k) n
    by_cases c : X.testBit n = true
    · rw [if_pos c, if_pos rfl, if_pos c, kCn_t (p := fun k => X.testBit k) c, hr n (by omega)]
      show (nI (m - kCn (fun k => X.testBit k) n) + -1, nI (gmU B (fun k => X.testBit k) n) ||| nI (B n)) = _
      rw [n_or]
      have e : nI (m - kCn (fun k => X.testBit k) n) + -1 = nI (m - (kCn (fun k => X.testBit k) n + 1)) := by
        apply Int32.toInt_inj.mp
        have z : (-1 : Int32).toInt = -1 := by decide
        have a1 := nI_toInt (n := m - kCn (fun k => X.testBit k) n) (by omega)
        have a2 := nI_toInt (n := m - (kCn (fun k => X.testBit k) n + 1)) (by omega)
        rw [t_add (by omega) (by omega)]
        omega
      rw [e]
    · rw [if_neg c, if_neg (by decide), if_neg c, kCn_f (p := fun k => X.testBit k) c]
theorem gmV_s {N : Nat → Nat → Bool} {r : Nat → Nat → Int32} {B : Nat → Nat} {m X K : Nat} (hK : K ≤ 12) (hm : m ≤ 8) (hX : X < 4096) (hr : ∀ i, i < m → r 100 i = nI (B i)) (hl : ∀ i, B i < 2 ^ K) (hb : ∀ i k, (B i).testBit k = (decide (k < K) && N i k)) : gmV r (nI m) (nI X) = nI (kF N K m (fun _ => true) (fun k => X.testBit k)) := by
  unfold gmV
  rw [ix_nI (by omega), gmI_s hm hX hr m (Nat.le_refl _)]
  have p12 := mo_p12 hK
  have ul := gmU_lt (S := fun k => X.testBit k) hl m
  show nI (m - kCn (fun k => X.testBit k) m) + kBc (nI (gmU B (fun k => X.testBit k) m)) = _
  rw [kbc_0 _ (by omega)]
  have e : pcN 12 (gmU B (fun k => X.testBit k) m) = kCn (fun k => true && kNb N (fun k => X.testBit k) m k) K := by
    unfold pcN
    have e1 : kCn (fun k => (gmU B (fun k => X.testBit k) m).testBit k) 12 = kCn (fun k => (gmU B (fun k => X.testBit k) m).testBit k) K := by
      have := kCn_x (p := fun k => (gmU B (fun k => X.testBit k) m).testBit k) K (12 - K) (fun k hk => by
        show (gmU B (fun k => X.testBit k) m).testBit k = false
        rw [gmU_bit hb]
        simp [show ¬ k < K from by omega])
      rw [show K + (12 - K) = 12 from by omega] at this
      exact this
    rw [e1]
    refine kCn_eq (fun k hk => ?_)
    show (gmU B (fun k => X.testBit k) m).testBit k = _
    rw [gmU_bit hb]
    simp [hk]
  rw [e]
  unfold kF
  have := nI_add (m - kCn (fun k => X.testBit k) m) (kCn (fun k => true && kNb N (fun k => X.testBit k) m k) K)
  rw [this, Nat.add_comm]
def gmM (N : Nat → Nat → Bool) (K m : Nat) : Nat → Nat
  | 0 => m
  | n + 1 => min (gmM N K m n) (kF N K m (fun _ => true) (fun k => n.testBit k))
theorem kF_le (N : Nat → Nat → Bool) (K m : Nat) (T S : Nat → Bool) : kF N K m T S ≤ K + m := by
  unfold kF
  have := kCn_le (fun k => T k && kNb N S m k) K
  omega
theorem gmM_le (N : Nat → Nat → Bool) (K m : Nat) : ∀ n, gmM N K m n ≤ m
  | 0 => Nat.le_refl _
  | n + 1 => by
    have := gmM_le N K m n
    unfold gmM
    omega
theorem gmO_s {N : Nat → Nat → Bool} {r : Nat → Nat → Int32} {B : Nat → Nat} {m K : Nat} (hK : K ≤ 12) (hm : m ≤ 8) (hr : ∀ i, i < m → r 100 i = nI (B i)) (hl : ∀ i, B i < 2 ^ K) (hb : ∀ i k, (B i).testBit k = (decide (k < K) && N i k)) : ∀ n, n ≤ 4096 → gmO r (nI m) n = nI (gmM N K m n)
  | 0, _ => rfl
  | n + 1, hn => by
    unfold gmO gmM
    rw [gmO_s hK hm hr hl hb n (by omega), gmV_s hK hm (by omega) hr hl hb]
    have l1 := gmM_le N K m n
    have l2 := kF_le N K m (fun _ => true) (fun k => n.testBit k)
    have a1 := nI_toInt (n := gmM N K m n) (by omega)
    have a2 := nI_toInt (n := kF N K m (fun _ => true) (fun k => n.testBit k)) (by omega)
    by_cases c : nI (kF N K m (fun _ => true) (fun k => n.testBit k)) < nI (gmM N K m n)
    · rw [if_pos c]
      rw [Int32.lt_iff_toInt_lt] at c
      rw [Nat.min_eq_right (by omega)]
    · rw [if_neg c]
      rw [Int32.lt_iff_toInt_lt] at c
      rw [Nat.min_eq_left (by omega)]
theorem gmM_lo {N : Nat → Nat → Bool} {K m R : Nat} (h : ∀ S, R ≤ kF N K m (fun _ => true) S) (h0 : R ≤ m) : ∀ n, R ≤ gmM N K m n
  | 0 => h0
  | n + 1 => by
    have := gmM_lo h h0 n
    have := h (fun k => n.testBit k)
    unfold gmM
    omega
theorem gmM_at {N : Nat → Nat → Bool} {K m X : Nat} : ∀ n, X < n → gmM N K m n ≤ kF N K m (fun _ => true) (fun k => X.testBit k)
  | 0, h => by omega
  | n + 1, h => by
    unfold gmM
    by_cases c : X = n
    · subst c; omega
    · have := gmM_at (N := N) (K := K) (m := m) (X := X) n (by omega)
      omega
theorem kF_eq {N : Nat → Nat → Bool} {K m : Nat} {T S S' : Nat → Bool} (h : ∀ j, j < m → S j = S' j) : kF N K m T S = kF N K m T S' := by
  unfold kF
  rw [kCn_eq (p := S) (q := S') h, kCn_eq (p := fun k => T k && kNb N S m k) (q := fun k => T k && kNb N S' m k) (fun j _ => by show (T j && _) = (T j && _); rw [kNb_eq m h])]
theorem kR_m (N : Nat → Nat → Bool) (K m : Nat) : kR N K m (fun _ => true) ≤ m := by
  have h := (kKO (N := N) (K := K) m).1 (fun _ => true) (fun _ => false)
  have e : kF N K m (fun _ => true) (fun _ => false) = m := by
    unfold kF
    have e1 : ∀ n k, kNb N (fun _ => false) n k = false := by
      intro n
      induction n with
      | zero => intro k; rfl
      | succ n ih => intro k; show (kNb N (fun _ => false) n k || (false && N n k)) = false; rw [ih k]; rfl
    rw [kCn_z (p := fun k => true && kNb N (fun _ => false) m k) K (fun j _ => by show (true && _) = false; rw [e1]; rfl), kCn_z (p := fun _ => false) m (fun _ _ => rfl)]
    omega
  omega
theorem gmM_R (N : Nat → Nat → Bool) (K m : Nat) : gmM N K m (2 ^ m) = kR N K m (fun _ => true) := by
  have hi := gmM_lo (N := N) (K := K) (m := m) (fun S => (kKO m).1 (fun _ => true) S) (kR_m N K m) (2 ^ m)
  obtain ⟨S, hS⟩ := (kKO (N := N) (K := K) m).2 (fun _ => true)
  have e : kF N K m (fun _ => true) S = kF N K m (fun _ => true) (fun k => (mbN S m).testBit k) := kF_eq (fun j hj => by rw [mbN_bit]; simp [hj])
  have lo := gmM_at (N := N) (K := K) (m := m) (X := mbN S m) (2 ^ m) (mbN_lt S m)
  omega
theorem goF_lo (lst : Int32) (s : Nat → Int32) (r : Nat → Nat → Int32) : ∀ (n : Nat) (p h : Int32), 0 ≤ h.toInt → h.toInt + n ≤ 5000 → 0 ≤ (goF lst s r n p h).toInt
  | 0, _, _, h0, _ => h0
  | n + 1, p, h, h0, h1 => by
    unfold goF
    split
    · exact h0
    · have z : (1 : Int32).toInt = 1 := by decide
      have e : (h + 1).toInt = h.toInt + 1 := by rw [t_add (by omega) (by omega)]; omega
      exact goF_lo lst s r n _ _ (by omega) (by omega)
section JMO
variable {sC sM : Nat → Int32} {rC rM : Nat → Nat → Int32}
theorem kw_m (h : jI sC rC sM rM) {c : Nat} (hc : c < 60) : ∀ n, n ≤ (sM 26).toNatClampNeg → kwF c sC rC n = nI (mbN (fun k => !decide (fCo (nI k) (nI c) sM rM = 0)) n)
  | 0, _ => by show (0 : Int32) = nI 0; decide
  | n + 1, hn => by
    have t26 := t_ix h.N.2.2.2.1.1
    have b26 := h.N.2.2.2.1.2
    have ic : Int32.toNatClampNeg (nI c) = c := ix_nI (by omega)
    have in_ : Int32.toNatClampNeg (nI n) = n := ix_nI (by omega)
    have ef : fCo (nI n) (nI c) sM rM = if fAg (nI n) (nI c) sM rM = 0 then (if rM 46 c = -1 then 1 else if fGo (rM 46 c) 1 sM rM ≤ sM 1 + fWa (nI n) (nI c) rM then 0 else 1) else 0 := by
      unfold fCo
      rw [ic]
    have y1 : ∀ {p : Nat → Bool} {a : Int32}, (p = fun k => !decide (fCo (nI k) (nI c) sM rM = 0)) → fCo (nI n) (nI c) sM rM = a → ¬ a = 0 → p n = true := by
      intro p a hp ha hz
      rw [hp]
      show (!decide (fCo (nI n) (nI c) sM rM = 0)) = true
      rw [ha]
      simp [hz]
    have y0 : ∀ {p : Nat → Bool}, (p = fun k => !decide (fCo (nI k) (nI c) sM rM = 0)) → fCo (nI n) (nI c) sM rM = 0 → ¬ p n = true := by
      intro p hp ha
      rw [hp]
      show ¬ (!decide (fCo (nI n) (nI c) sM rM = 0)) = true
      rw [ha]
      simp
    unfold kwF mbN
    rw [kw_m h hc n (by omega), ag_q h.q in_ ic (h.E 29 n).1, wa_q h.q in_ ic (h.P n (by omega)) (h.E 27 n) (h.E 28 n) (h.E 42 c) (h.E 43 c), mo_sh n (by omega), n_or, h.q.s 1]
    unfold hgV
    rw [h.q.r 46, fGo_q h.q]
    by_cases c0 : fAg (nI n) (nI c) sM rM = 0
    · rw [if_pos c0] at ef
      rw [if_pos c0]
      by_cases c1 : rM 46 c = -1
      · rw [if_pos c1] at ef
        rw [if_pos c1, if_pos rfl, if_pos (y1 rfl ef (by decide))]
      · rw [if_neg c1] at ef
        rw [if_neg c1]
        have b46 : 0 ≤ (rM 46 c).toInt ∧ (rM 46 c).toInt ≤ 743 := by
          rcases h.E 46 c with q | q
          · exact absurd q c1
          · exact q
        have g := goF_lo 1 sM rM 61 60 (rM 46 c) b46.1 (by omega)
        have g1 : ¬ fGo (rM 46 c) 1 sM rM = -1 := fun q => by
          have g' : 0 ≤ (fGo (rM 46 c) 1 sM rM).toInt := g
          rw [q] at g'
          exact absurd g' (by decide)
        rw [if_neg g1]
        by_cases c2 : fGo (rM 46 c) 1 sM rM ≤ sM 1 + fWa (nI n) (nI c) rM
        · rw [if_pos c2] at ef
          rw [if_pos c2, if_neg (y0 rfl ef)]
        · rw [if_neg c2] at ef
          rw [if_neg c2, if_pos (y1 rfl ef (by decide))]
    · rw [if_neg c0] at ef
      rw [if_neg c0, if_neg (y0 rfl ef)]
theorem mk1 (h : jI sC rC sM rM) : ∀ k c n r1 r2, r1 41 = rM 41 → n ≤ 8 → c + k ≤ 60 → (∀ i, i < n → ∃ q, q < 60 ∧ r1 68 i = nI q ∧ r2 100 i = kwF q sC rC (sC 26).toNatClampNeg) → (mo1 k c n r1).1 = (km1 sC rC k c n r2).1 ∧ (mo1 k c n r1).1 ≤ 8 ∧ ∀ i, i < (mo1 k c n r1).1 → ∃ q, q < 60 ∧ (mo1 k c n r1).2 68 i = nI q ∧ (km1 sC rC k c n r2).2 100 i = kwF q sC rC (sC 26).toNatClampNeg
  | 0, c, n, r1, r2, _, hn, _, hp => ⟨rfl, hn, hp⟩
  | k + 1, c, n, r1, r2, h41, hn, hc, hp => by
    unfold mo1 km1
    by_cases c0 : 8 ≤ n
    · rw [if_pos c0, if_pos c0]; exact ⟨rfl, hn, hp⟩
    rw [if_neg c0, if_neg c0, h41, h.q.r 41]
    by_cases c1 : rM 41 c = 0
    · rw [if_pos c1, if_pos c1]
      refine mk1 h k (c + 1) (n + 1) _ _ (by rw [up2_nn _ _ _ (by decide), h41]) (by omega) (by omega) (fun i hi => ?_)
      by_cases q : i = n
      · subst q
        exact ⟨c, by omega, by rw [up2_ss], by rw [up2_ss]⟩
      · rw [up2_sn _ _ _ q, up2_sn _ _ _ q]
        exact hp i (by omega)
    · rw [if_neg c1, if_neg c1]
      exact mk1 h k (c + 1) n _ _ h41 hn (by omega) hp
theorem jI_oth (h : jI sC rC sM rM) {rC' rM' : Nat → Nat → Int32} (hc : ∀ f, ¬ f = 100 → rC' f = rC f) (hm : ∀ f, ¬ f = 67 → ¬ f = 68 → rM' f = rM f) : jI sC rC' sM rM' := by
  obtain ⟨a, b, c, d, e⟩ := h
  refine ⟨⟨a.1, fun f hf => ?_⟩, b, fun f j => ?_, jZ_eq d rfl (Int.le_refl _) (fun f hf => ?_), jQ_eq e (hc _ (by decide)) (fun dd hd => hc _ (by omega)) rfl (Int.le_refl _) (hm _ (by decide) (by decide)) (hm _ (by decide) (by decide)) (hm _ (by decide) (by decide))⟩
  · have : ∀ f, f ∈ [2, 3, 4, 5, 7, 8, 9, 10, 11, 12, 13, 15, 16, 17, 18, 19, 20, 21, 22, 23, 24, 25, 27, 28, 29, 30, 31, 32, 33, 34, 35, 36, 37, 38, 41, 42, 43, 44, 45, 46, 47, 48, 49, 50, 51, 58, 59, 60] → ¬ f = 100 ∧ ¬ f = 67 ∧ ¬ f = 68 := by decide
    have t := this f hf
    rw [hc f t.1, hm f t.2.1 t.2.2, a.2 f hf]
  · by_cases c1 : f = 67
    · subst c1; trivial
    by_cases c2 : f = 68
    · subst c2; trivial
    rw [hm f c1 c2]; exact c f j
  · have : ∀ f, f ∈ [15, 24, 25, 29, 31, 34, 36, 37] → ¬ f = 67 ∧ ¬ f = 68 := by decide
    have t := this f hf
    exact hm f t.1 t.2
theorem mo1_o : ∀ k c n r, oth r (mo1 k c n r).2
  | 0, _, _, _ => fun _ _ _ => rfl
  | k + 1, c, n, r => by
    unfold mo1
    split
    · exact fun _ _ _ => rfl
    · split
      · exact fun f h1 h2 => (mo1_o k (c + 1) (n + 1) _ f h1 h2).trans (up2_nn _ _ _ h2)
      · exact mo1_o k (c + 1) n r
theorem km1_o (s : Nat → Int32) (r0 : Nat → Nat → Int32) : ∀ k c n r, o100 r (km1 s r0 k c n r).2
  | 0, _, _, _ => fun _ _ => rfl
  | k + 1, c, n, r => by
    unfold km1
    split
    · exact fun _ _ => rfl
    · split
      · exact fun f h1 => (km1_o s r0 k (c + 1) (n + 1) _ f h1).trans (up2_nn _ _ _ h1)
      · exact km1_o s r0 k (c + 1) n r
theorem j_most (h : jI sC rC sM rM) : kmV sC rC = moV sM rM ∧ jI sC (kmR sC rC) (upd sM 0 0) (moR sM rM) := by
  have t26 := t_ix h.N.2.2.2.1.1
  have b26 := h.N.2.2.2.1.2
  have t39 := t_ix h.N.2.2.2.2.1.1
  have b39 := h.N.2.2.2.2.1.2
  refine ⟨?_, ?_⟩
  · obtain ⟨e1, e2, e3⟩ := mk1 h (sM 39).toNatClampNeg 0 0 rM rC rfl (by decide) (by omega) (fun i hi => by omega)
    have hkN : kmN sC rC = moN sM rM := by
      unfold kmN moN
      rw [h.q.s 39]
      exact e1.symm
    have e2' : moN sM rM ≤ 8 := e2
    have e3' : ∀ i, i < moN sM rM → ∃ q, q < 60 ∧ moA sM rM 68 i = nI q ∧ kmR sC rC 100 i = kwF q sC rC (sC 26).toNatClampNeg := by
      intro i hi
      obtain ⟨q, q1, q2, q3⟩ := e3 i hi
      refine ⟨q, q1, q2, ?_⟩
      unfold kmR
      rw [h.q.s 39]
      exact q3
    clear e1 e2 e3
    unfold kmV moV moR
    rw [hkN, ix_nI (by omega)]
    generalize hm : moN sM rM = m at *
    generalize hK : (sM 26).toNatClampNeg = K at *
    have hK12 : K ≤ 12 := by omega
    have p12 := mo_p12 hK12
    have hr1 : mo2 (moA sM rM) (2 ^ K) 68 = moA sM rM 68 := ot8_2 _ _ 68 (by decide)
    have hT := moO_s (s := sM) (r := rM) (r1 := mo2 (moA sM rM) (2 ^ K)) hK12 (fun z hz => by
      rw [mo2_67 _ _ _ p12, if_pos hz]
      unfold tbT aM
      by_cases q : z = 0
      · subst q
        rw [if_pos rfl, if_pos (by decide), pc_0]
        decide
      · rw [if_neg q, if_neg (by simpa using q)]) m
    rw [hr1] at hT
    rw [moZ_s hK12 (2 ^ K) hT, zX_R]
    have e5 : ∀ i, i < m → kmR sC rC 100 i = nI (mbN (fun k => !decide (fCo (nI k) (moA sM rM 68 i) sM rM = 0)) K) := by
      intro i hi
      obtain ⟨q, q1, q2, q3⟩ := e3' i hi
      rw [q3, q2, h.q.s 26, hK]
      exact kw_m h q1 K (by omega)
    have hg := gmO_s (N := fun i k => !decide (fCo (nI k) (moA sM rM 68 i) sM rM = 0)) (r := kmR sC rC) (B := fun i => mbN (fun k => !decide (fCo (nI k) (moA sM rM 68 i) sM rM = 0)) K) (m := m) (K := K) hK12 e2' e5 (fun i => mbN_lt _ K) (fun i k => mbN_bit _ K k) (2 ^ m) (Nat.le_trans (Nat.pow_le_pow_right (by decide) e2') (by decide))
    rw [hg, gmM_R]
  · refine jI_0 (jI_oth h (fun f hf => ?_) (fun f h1 h2 => ?_)) 0
    · exact km1_o sC rC _ _ _ _ f hf
    · unfold moR
      rw [ot8_O _ f h1, ot8_2 _ _ f h1]
      exact mo1_o _ _ _ _ f h1 h2
end JMO
