/-! origin: the one hive that agrees -/
def ogC (sw : Int32) (r : Nat → Nat → Int32) : Nat → Nat
  | 0 => 0
  | n + 1 => if agP sw r (nI n) = 0 then ogC sw r n else ogC sw r n + 1
theorem ogM_C (sw : Int32) (r : Nat → Nat → Int32) : ∀ n, ogM sw r n = nI (ogC sw r n)
  | 0 => rfl
  | n + 1 => by
    unfold ogM ogC
    by_cases c : agP sw r (nI n) = 0
    · rw [if_pos c, if_pos c, ogM_C sw r n]
    · rw [if_neg c, if_neg c, ogM_C sw r n]
      exact nI_1 _
theorem ogC_le (sw : Int32) (r : Nat → Nat → Int32) : ∀ n, ogC sw r n ≤ n
  | 0 => Nat.le_refl _
  | n + 1 => by
    have := ogC_le sw r n
    unfold ogC
    by_cases c : agP sw r (nI n) = 0
    · rw [if_pos c]; omega
    · rw [if_neg c]; omega
theorem ogC_s0 {sw : Int32} {r : Nat → Nat → Int32} {i : Nat} (c : agP sw r (nI i) = 0) : ogC sw r (i + 1) = ogC sw r i := if_pos c
theorem ogC_s1 {sw : Int32} {r : Nat → Nat → Int32} {i : Nat} (c : ¬ agP sw r (nI i) = 0) : ogC sw r (i + 1) = ogC sw r i + 1 := if_neg c
theorem ogF_s0 {sw : Int32} {r : Nat → Nat → Int32} {i : Nat} (c : agP sw r (nI i) = 0) : ogF sw r (i + 1) = ogF sw r i := if_pos c
theorem ogF_s1 {sw : Int32} {r : Nat → Nat → Int32} {i : Nat} (c : ¬ agP sw r (nI i) = 0) : ogF sw r (i + 1) = nI i := if_neg c
theorem ogC_mono (sw : Int32) (r : Nat → Nat → Int32) (i : Nat) : ∀ n, ogC sw r i ≤ ogC sw r (i + n)
  | 0 => Nat.le_refl _
  | n + 1 => by
    have := ogC_mono sw r i n
    show ogC sw r i ≤ ogC sw r ((i + n) + 1)
    by_cases c : agP sw r (nI (i + n)) = 0
    · rw [ogC_s0 c]; exact this
    · rw [ogC_s1 c]; omega
theorem nI_m1 {i : Nat} (h : i ≤ 60) : ¬ nI i = -1 := fun e => by
  have h1 := nI_toInt (n := i) (by omega)
  rw [e] at h1
  have h2 : (-1 : Int32).toInt = -1 := by decide
  omega
theorem ko_og (w : Nat) (mk sw : Int32) (rC rM : Nat → Nat → Int32) : ∀ (n i : Nat) (f : Int32), (ogC sw rM i = 0 ∧ f = -1 ∨ ogC sw rM i = 1 ∧ f = ogF sw rM i ∧ ¬ f = -1) → i + n ≤ 60 → (∀ q, q < i + n → kAw q w mk rC = agP sw rM (nI q)) → koF w mk rC n i f = if ogC sw rM (i + n) = 1 then ogF sw rM (i + n) else -1
  | 0, i, f, h, _, _ => by
    show f = if ogC sw rM i = 1 then ogF sw rM i else -1
    rcases h with ⟨h1, h2⟩ | ⟨h1, h2, -⟩
    · rw [if_neg (by omega), h2]
    · rw [if_pos h1, h2]
  | n + 1, i, f, h, hb, hk => by
    have e9 : i + (n + 1) = i + 1 + n := by omega
    unfold koF
    rw [hk i (by omega), e9]
    by_cases c : agP sw rM (nI i) = 0
    · rw [if_pos c]
      exact ko_og w mk sw rC rM n (i + 1) f (by rw [ogC_s0 c, ogF_s0 c]; exact h) (by omega) (fun q hq => hk q (by omega))
    · rw [if_neg c]
      by_cases c2 : f = -1
      · rw [if_pos c2]
        have h0 : ogC sw rM i = 0 := by
          rcases h with ⟨h1, -⟩ | ⟨-, -, h3⟩
          · exact h1
          · exact absurd c2 h3
        exact ko_og w mk sw rC rM n (i + 1) (nI i) (Or.inr ⟨by rw [ogC_s1 c, h0], (ogF_s1 c).symm, nI_m1 (by omega)⟩) (by omega) (fun q hq => hk q (by omega))
      · rw [if_neg c2]
        have h0 : ogC sw rM i = 1 := by
          rcases h with ⟨-, h2⟩ | ⟨h1, -, -⟩
          · exact absurd h2 c2
          · exact h1
        have h3 := ogC_mono sw rM (i + 1) n
        rw [ogC_s1 c, h0] at h3
        rw [if_neg (by omega)]
