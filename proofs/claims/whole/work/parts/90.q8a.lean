theorem n_or (a b : Nat) : nI a ||| nI b = nI (a ||| b) := by
  apply Int32.toBitVec_inj.mp
  rw [Int32.toBitVec_or]
  show BitVec.ofNat 32 a ||| BitVec.ofNat 32 b = BitVec.ofNat 32 (a ||| b)
  rw [BitVec.ofNat_or]
theorem n_xor (a b : Nat) : nI a ^^^ nI b = nI (a ^^^ b) := by
  apply Int32.toBitVec_inj.mp
  rw [Int32.toBitVec_xor]
  show BitVec.ofNat 32 a ^^^ BitVec.ofNat 32 b = BitVec.ofNat 32 (a ^^^ b)
  rw [BitVec.ofNat_xor]
theorem n_and (a b : Nat) : nI a &&& nI b = nI (a &&& b) := by
  apply Int32.toBitVec_inj.mp
  rw [Int32.toBitVec_and]
  show BitVec.ofNat 32 a &&& BitVec.ofNat 32 b = BitVec.ofNat 32 (a &&& b)
  rw [BitVec.ofNat_and]
theorem n_shr0 : ∀ k, k < 12 → ((nI k &&& 31).toBitVec.smod 32) = BitVec.ofNat 32 k := by decide +kernel
theorem n_shr {a k : Nat} (ha : a < 4096) (hk : k < 12) : nI a >>> (nI k &&& 31) = nI (a >>> k) := by
  apply Int32.toBitVec_inj.mp
  rw [Int32.toBitVec_shiftRight, n_shr0 k hk]
  show (BitVec.ofNat 32 a).sshiftRight' (BitVec.ofNat 32 k) = BitVec.ofNat 32 (a >>> k)
  rw [BitVec.sshiftRight_eq', BitVec.sshiftRight_eq_of_msb_false]
  · apply BitVec.eq_of_toNat_eq
    simp
    rw [Nat.mod_eq_of_lt (by omega), Nat.mod_eq_of_lt (by omega), Nat.mod_eq_of_lt]
    rw [Nat.shiftRight_eq_div_pow]
    exact Nat.lt_of_le_of_lt (Nat.div_le_self _ _) (by omega)
  · rw [BitVec.msb_eq_decide]
    simp
    omega
theorem n_bit {a k : Nat} (ha : a < 4096) (hk : k < 12) : (nI a >>> (nI k &&& 31)) &&& 1 = if a.testBit k = true then 1 else 0 := by
  rw [n_shr ha hk, show (1 : Int32) = nI 1 from by decide, n_and, Nat.and_one_is_mod, show (0 : Int32) = nI 0 from by decide]
  have e : a.testBit k = decide ((a >>> k) % 2 = 1) := by
    rw [Nat.testBit_eq_decide_div_mod_eq, Nat.shiftRight_eq_div_pow]
  rw [e]
  rcases Nat.mod_two_eq_zero_or_one (a >>> k) with q | q <;> simp [q]
def mbN (p : Nat → Bool) : Nat → Nat
  | 0 => 0
  | n + 1 => if p n = true then mbN p n ||| 2 ^ n else mbN p n
theorem mbN_lt (p : Nat → Bool) : ∀ n, mbN p n < 2 ^ n
  | 0 => Nat.zero_lt_one
  | n + 1 => by
    have ih := mbN_lt p n
    have e : 2 ^ n < 2 ^ (n + 1) := Nat.pow_lt_pow_right (by decide) (by omega)
    unfold mbN
    split
    · exact Nat.or_lt_two_pow (by omega) e
    · omega
theorem mbN_bit (p : Nat → Bool) : ∀ n k, (mbN p n).testBit k = (decide (k < n) && p k)
  | 0, k => by simp [mbN]
  | n + 1, k => by
    unfold mbN
    by_cases c : p n = true
    · rw [if_pos c, Nat.testBit_or, mbN_bit p n k, Nat.testBit_two_pow]
      by_cases q : n = k
      · subst q; simp [c]
      · by_cases q2 : k < n
        · simp [q, q2, show k < n + 1 from by omega]
        · simp [q, q2, show ¬ k < n + 1 from by omega]
    · rw [if_neg c, mbN_bit p n k]
      by_cases q : n = k
      · subst q; simp [c]
      · by_cases q2 : k < n
        · simp [q2, show k < n + 1 from by omega]
        · simp [q2, show ¬ k < n + 1 from by omega]
def aX (p : Nat → Bool) : Nat → Bool
  | 0 => false
  | n + 1 => aX p n || p n
theorem aX_ex {p : Nat → Bool} : ∀ n, aX p n = true ↔ ∃ k, k < n ∧ p k = true
  | 0 => by simp [aX]
  | n + 1 => by
    unfold aX
    rw [Bool.or_eq_true, aX_ex n]
    constructor
    · rintro (⟨k, h1, h2⟩ | h)
      · exact ⟨k, by omega, h2⟩
      · exact ⟨n, by omega, h⟩
    · rintro ⟨k, h1, h2⟩
      by_cases q : k = n
      · subst q; exact Or.inr h2
      · exact Or.inl ⟨k, by omega, h2⟩
def aM (N : Nat → Nat → Bool) (K : Nat) : Nat → Nat → Bool
  | 0, y => y == 0
  | i + 1, y => aM N K i y || aX (fun k => N i k && y.testBit k && aM N K i (y ^^^ 2 ^ k)) K
def pcN (K y : Nat) : Nat := kCn (fun k => y.testBit k) K
theorem xr_bit {y k : Nat} (h : y.testBit k = true) (j : Nat) : (y ^^^ 2 ^ k).testBit j = kRm (fun k => y.testBit k) k j := by
  rw [Nat.testBit_xor, Nat.testBit_two_pow]
  unfold kRm
  by_cases c : k = j
  · subst c; simp [h]
  · simp [c, show ¬ j = k from fun e => c e.symm]
theorem pc_xr {K y k : Nat} (h : y.testBit k = true) (hk : k < K) : pcN K y = pcN K (y ^^^ 2 ^ k) + 1 := by
  unfold pcN
  rw [kCn_eq (fun j _ => xr_bit h j)]
  have a := kCn_lt (p := kRm (fun k => y.testBit k) k) (q := fun k => y.testBit k) (k := k) h (by rw [kRm_s]; decide) K hk (fun j _ hj => kRm_le hj)
  have b := kCn_but (p := kRm (fun k => y.testBit k) k) (q := fun k => y.testBit k) (k := k) K (fun j _ hne hj => by rw [kRm_n _ hne]; exact hj)
  omega
theorem xr_lt {y k : Nat} (h : y.testBit k = true) : y ^^^ 2 ^ k < y := by
  have e : (y ^^^ 2 ^ k) ||| 2 ^ k = y := by
    apply Nat.eq_of_testBit_eq
    intro j
    rw [Nat.testBit_or, xr_bit h, Nat.testBit_two_pow]
    by_cases q : k = j
    · subst q; simp [h]
    · rw [kRm_n _ (fun e => q e.symm)]; simp [q]
  have h1 : y ^^^ 2 ^ k ≤ (y ^^^ 2 ^ k) ||| 2 ^ k := Nat.left_le_or
  rw [e] at h1
  have h2 : ¬ y ^^^ 2 ^ k = y := fun q => by
    have z := xr_bit h k
    rw [q, h, kRm_s] at z
    exact absurd z (by decide)
  omega
theorem kCn_z {p : Nat → Bool} : ∀ n, (∀ j, j < n → p j = false) → kCn p n = 0
  | 0, _ => rfl
  | n + 1, h => by rw [kCn_f (by rw [h n (by omega)]; decide)]; exact kCn_z n (fun j hj => h j (by omega))
theorem pc_0 (K : Nat) : pcN K 0 = 0 := kCn_z K (fun j _ => by simp)
theorem aM_le {N : Nat → Nat → Bool} {K : Nat} : ∀ i (T : Nat → Bool) y, (∀ k, y.testBit k = true → T k = true) → aM N K i y = true → pcN K y ≤ kR N K i T
  | 0, T, y, _, h => by
    have : y = 0 := by simpa [aM] using h
    rw [this, pc_0]
    exact Nat.zero_le _
  | i + 1, T, y, hT, h => by
    unfold aM at h
    rw [Bool.or_eq_true] at h
    rw [kR_s]
    rcases h with h | h
    · have := aM_le i T y hT h
      omega
    · obtain ⟨k, hk, q⟩ := (aX_ex K).mp h
      rw [Bool.and_eq_true, Bool.and_eq_true] at q
      have ih := aM_le i (kRm T k) (y ^^^ 2 ^ k) (fun j hj => by
        rw [xr_bit q.1.2] at hj
        have hne : ¬ j = k := fun e => by rw [e, kRm_s] at hj; exact absurd hj (by decide)
        rw [kRm_n _ hne]
        exact hT j (kRm_le hj)) q.2
      have g := kMx_ge (f := fun k => kR N K i (kRm T k)) (p := fun k => N i k && T k) (k := k) (by rw [Bool.and_eq_true]; exact ⟨q.1.1, hT k q.1.2⟩) K hk
      have := pc_xr q.1.2 hk
      have g' : kR N K i (kRm T k) + 1 ≤ kMx (fun k => kR N K i (kRm T k)) (fun k => N i k && T k) K := g
      omega
theorem aM_ex {N : Nat → Nat → Bool} {K : Nat} : ∀ i (T : Nat → Bool), ∃ y, y < 2 ^ K ∧ (∀ k, y.testBit k = true → T k = true) ∧ aM N K i y = true ∧ pcN K y = kR N K i T
  | 0, T => ⟨0, Nat.two_pow_pos K, fun k hk => by simp at hk, by simp [aM], pc_0 K⟩
  | i + 1, T => by
    obtain ⟨y, h1, h2, h3, h4⟩ := aM_ex (N := N) (K := K) i T
    have left : kR N K (i + 1) T = kR N K i T → ∃ y, y < 2 ^ K ∧ (∀ k, y.testBit k = true → T k = true) ∧ aM N K (i + 1) y = true ∧ pcN K y = kR N K (i + 1) T := fun e => ⟨y, h1, h2, by unfold aM; rw [h3]; rfl, by rw [h4, e]⟩
    rcases kMx_ex (f := fun k => kR N K i (kRm T k)) (p := fun k => N i k && T k) K with e | ⟨k, hk, hp, e⟩
    · exact left (by rw [kR_s, e]; omega)
    · by_cases c : kR N K i (kRm T k) + 1 ≤ kR N K i T
      · exact left (by rw [kR_s, e]; show max _ (kR N K i (kRm T k) + 1) = _; omega)
      · obtain ⟨z, z1, z2, z3, z4⟩ := aM_ex (N := N) (K := K) i (kRm T k)
        rw [Bool.and_eq_true] at hp
        have zk : z.testBit k = false := by
          cases q : z.testBit k
          · rfl
          · have := z2 k q
            rw [kRm_s] at this
            exact absurd this (by decide)
        have yk : (z ||| 2 ^ k).testBit k = true := by
          rw [Nat.testBit_or, Nat.testBit_two_pow]; simp
        have yx : (z ||| 2 ^ k) ^^^ 2 ^ k = z := by
          apply Nat.eq_of_testBit_eq
          intro j
          rw [Nat.testBit_xor, Nat.testBit_or, Nat.testBit_two_pow]
          by_cases q : k = j
          · subst q; simp [zk]
          · simp [q]
        refine ⟨z ||| 2 ^ k, Nat.or_lt_two_pow z1 (Nat.pow_lt_pow_right (by decide) hk), fun j hj => ?_, ?_, ?_⟩
        · rw [Nat.testBit_or, Nat.testBit_two_pow] at hj
          by_cases q : k = j
          · subst q; exact hp.2
          · exact kRm_le (z2 j (by simpa [q] using hj))
        · unfold aM
          rw [Bool.or_eq_true]
          right
          refine (aX_ex K).mpr ⟨k, hk, ?_⟩
          show (N i k && (z ||| 2 ^ k).testBit k && aM N K i ((z ||| 2 ^ k) ^^^ 2 ^ k)) = true
          rw [yx, z3, hp.1, yk]
          rfl
        · rw [pc_xr yk hk, yx, z4, kR_s, e]
          show _ = max _ (kR N K i (kRm T k) + 1)
          omega
