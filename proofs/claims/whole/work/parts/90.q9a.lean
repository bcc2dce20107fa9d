/-! the two readers: words -/
theorem i64_a {V : Nat} (hV : V < 2 ^ 40) {x : Nat} (hx : x < 256) : (Int64.ofNat V) <<< (Int32.toInt64 8 &&& 63) ||| Int32.toInt64 (nI x) = Int64.ofNat (V * 256 + x) := by
  apply Int64.toBitVec_inj.mp
  rw [Int64.toBitVec_or, Int64.toBitVec_shiftLeft]
  have e1 : ((Int32.toInt64 8 &&& 63).toBitVec.smod 64) = 8#64 := by decide +kernel
  rw [e1]
  have e2 : (Int32.toInt64 (nI x)).toBitVec = BitVec.ofNat 64 x := by
    have : ∀ x, x < 256 → (Int32.toInt64 (nI x)).toBitVec = BitVec.ofNat 64 x := by decide +kernel
    exact this x hx
  rw [e2]
  show BitVec.ofNat 64 V <<< 8#64 ||| BitVec.ofNat 64 x = BitVec.ofNat 64 (V * 256 + x)
  apply BitVec.eq_of_toNat_eq
  rw [BitVec.toNat_or, BitVec.shiftLeft_eq', BitVec.toNat_shiftLeft]
  simp
  rw [Nat.mod_eq_of_lt (a := V) (by omega), Nat.mod_eq_of_lt (a := x) (by omega), Nat.mod_eq_of_lt (a := V * 256 + x) (by omega), Nat.shiftLeft_eq, Nat.mod_eq_of_lt (by omega)]
  have := Nat.two_pow_add_eq_or_of_lt (i := 8) (b := x) (by omega) V
  rw [Nat.mul_comm] at this
  exact this.symm
theorem i64_i {a b : Nat} (ha : a < 2 ^ 62) (hb : b < 2 ^ 62) : Int64.ofNat a = Int64.ofNat b ↔ a = b := by
  constructor
  · intro h
    have h2 : (Int64.ofNat a).toBitVec = (Int64.ofNat b).toBitVec := by rw [h]
    have h3 : BitVec.ofNat 64 a = BitVec.ofNat 64 b := h2
    have h4 := congrArg BitVec.toNat h3
    simp at h4
    omega
  · intro h; rw [h]
def pk (f : Nat → Nat) : Nat → Nat
  | 0 => 0
  | n + 1 => pk f n * 256 + f n
theorem wvl_p {t : Nat → Int32} {f : Nat → Nat} {b w : Nat} (hw : w ≤ b + 6) (hf : ∀ i, b + i < w → t (b + i) = nI (f i) ∧ f i < 256) : ∀ (d i n : Nat), b + i + d = w → d < n → pk f i < 256 ^ i → wvl t w (b + 7) n (b + i) (Int64.ofNat (pk f i)) = Int64.ofNat (pk f (i + d))
  | 0, i, n, h, hn, _ => by
    cases n with
    | zero => omega
    | succ n =>
      unfold wvl
      rw [if_pos (by omega)]
      rfl
  | d + 1, i, n, h, hn, hp => by
    cases n with
    | zero => omega
    | succ n =>
      have q := hf i (by omega)
      have p40 : (256 : Nat) ^ i ≤ 256 ^ 5 := Nat.pow_le_pow_right (by decide) (by omega)
      have e5 : (256 : Nat) ^ 5 = 2 ^ 40 := by decide
      unfold wvl
      rw [if_neg (by omega), if_neg (by omega), q.1, i64_a (by omega) q.2]
      have hp' : pk f (i + 1) < 256 ^ (i + 1) := by
        show pk f i * 256 + f i < _
        rw [Nat.pow_succ]
        have := q.2
        omega
      have ih := wvl_p hw hf d (i + 1) n (by omega) (by omega) hp'
      rw [show i + (d + 1) = i + 1 + d from by omega]
      exact ih
theorem wen_sp (t : Nat → Int32) (e : Nat) : ∀ n i, (∀ j, i ≤ j → j < wen t e n i → ¬ fLe (t j) = 0 ∧ j < e)
  | 0, i, j, h1, h2 => by
    have : wen t e 0 i = i := rfl
    omega
  | n + 1, i, j, h1, h2 => by
    unfold wen at h2
    by_cases c : e ≤ i
    · rw [if_pos c] at h2; omega
    rw [if_neg c] at h2
    by_cases c2 : fLe (t i) = 0
    · rw [if_pos c2] at h2; omega
    rw [if_neg c2] at h2
    by_cases q : j = i
    · subst q; exact ⟨c2, by omega⟩
    · exact wen_sp t e n (i + 1) j (by omega) h2
theorem wen_gt {t : Nat → Int32} {e n i : Nat} (h : i < e) (h2 : ¬ fLe (t i) = 0) : i < wen t e (n + 1) i := by
  unfold wen
  rw [if_neg (by omega), if_neg h2]
  have := (wen_le t e n (i + 1)).1
  omega
theorem wen_eq {t : Nat → Int32} {e n i : Nat} (h : e ≤ i ∨ fLe (t i) = 0) : wen t e (n + 1) i = i := by
  unfold wen
  rcases h with h | h
  · rw [if_pos h]
  · by_cases c : e ≤ i
    · rw [if_pos c]
    · rw [if_neg c, if_pos h]
theorem le_b {x : Int32} (h : ¬ fLe x = 0) : 97 ≤ x.toInt ∧ x.toInt ≤ 122 := by
  unfold fLe at h
  have z1 : (97 : Int32).toInt = 97 := by decide
  have z2 : (122 : Int32).toInt = 122 := by decide
  by_cases c : x < 97
  · rw [if_pos c] at h; exact absurd rfl h
  rw [if_neg c] at h
  by_cases c2 : 122 < x
  · rw [if_pos c2] at h; exact absurd rfl h
  rw [Int32.lt_iff_toInt_lt] at c c2
  omega
theorem b8_id : ∀ n, n < 128 → (nI n).toInt8.toInt32 = nI n := by decide +kernel
theorem iwF_iff (w : Nat) (t : Nat → Int32) (a : Nat) : ∀ n i, kLen.getD w 0 < i + n → (iwF w t a n i = 1 ↔ ∀ j, i ≤ j → j < kLen.getD w 0 → t (a + j) = kCh w j)
  | 0, i, h => ⟨fun _ j h1 h2 => by omega, fun _ => rfl⟩
  | n + 1, i, h => by
    unfold iwF
    by_cases c : kLen.getD w 0 ≤ i
    · rw [if_pos c]
      exact ⟨fun _ j h1 h2 => by omega, fun _ => rfl⟩
    rw [if_neg c]
    by_cases c2 : t (a + i) = kCh w i
    · rw [if_pos c2, iwF_iff w t a n (i + 1) (by omega)]
      refine ⟨fun q j h1 h2 => ?_, fun q j h1 h2 => q j (by omega) h2⟩
      by_cases y : j = i
      · subst y; exact c2
      · exact q j (by omega) h2
    · rw [if_neg c2]
      exact ⟨fun q => absurd q (by decide), fun q => absurd (q i (Nat.le_refl _) (by omega)) c2⟩
theorem wd_12 {f : Nat → Nat} : ∀ L, 1 ≤ L → L ≤ 6 → (∀ i, i < L → 97 ≤ f i ∧ f i ≤ 122) → (pk f L = 24948 ↔ L = 2 ∧ f 0 = 97 ∧ f 1 = 116)
  | 0, h, _, _ => by omega
  | 1, _, _, h => by
    have h0 := h 0 (by omega)
    have ep : pk f 1 = (0 * 256 + f 0) := rfl
    rw [ep]
    constructor
    · intro y; exfalso; omega
    · intro y; exfalso; have y1 := y.1; omega
  | 2, _, _, h => by
    have h0 := h 0 (by omega)
    have h1 := h 1 (by omega)
    have ep : pk f 2 = ((0 * 256 + f 0) * 256 + f 1) := rfl
    rw [ep]
    constructor
    · intro y; refine ⟨rfl, ?_⟩; omega
    · intro y; have y2 := y.2; omega
  | 3, _, _, h => by
    have h0 := h 0 (by omega)
    have h1 := h 1 (by omega)
    have h2 := h 2 (by omega)
    have ep : pk f 3 = (((0 * 256 + f 0) * 256 + f 1) * 256 + f 2) := rfl
    rw [ep]
    constructor
    · intro y; exfalso; omega
    · intro y; exfalso; have y1 := y.1; omega
  | 4, _, _, h => by
    have h0 := h 0 (by omega)
    have h1 := h 1 (by omega)
    have h2 := h 2 (by omega)
    have h3 := h 3 (by omega)
    have ep : pk f 4 = ((((0 * 256 + f 0) * 256 + f 1) * 256 + f 2) * 256 + f 3) := rfl
    rw [ep]
    constructor
    · intro y; exfalso; omega
    · intro y; exfalso; have y1 := y.1; omega
  | 5, _, _, h => by
    have h0 := h 0 (by omega)
    have h1 := h 1 (by omega)
    have h2 := h 2 (by omega)
    have h3 := h 3 (by omega)
    have h4 := h 4 (by omega)
    have ep : pk f 5 = (((((0 * 256 + f 0) * 256 + f 1) * 256 + f 2) * 256 + f 3) * 256 + f 4) := rfl
    rw [ep]
    constructor
    · intro y; exfalso; omega
    · intro y; exfalso; have y1 := y.1; omega
  | 6, _, _, h => by
    have h0 := h 0 (by omega)
    have h1 := h 1 (by omega)
    have h2 := h 2 (by omega)
    have h3 := h 3 (by omega)
    have h4 := h 4 (by omega)
    have h5 := h 5 (by omega)
    have ep : pk f 6 = ((((((0 * 256 + f 0) * 256 + f 1) * 256 + f 2) * 256 + f 3) * 256 + f 4) * 256 + f 5) := rfl
    rw [ep]
    constructor
    · intro y; exfalso; omega
    · intro y; exfalso; have y1 := y.1; omega
  | n + 7, _, h, _ => by omega
theorem wd_13 {f : Nat → Nat} : ∀ L, 1 ≤ L → L ≤ 6 → (∀ i, i < L → 97 ≤ f i ∧ f i ≤ 122) → (pk f L = 1751738216 ↔ L = 4 ∧ f 0 = 104 ∧ f 1 = 105 ∧ f 2 = 103 ∧ f 3 = 104)
  | 0, h, _, _ => by omega
  | 1, _, _, h => by
    have h0 := h 0 (by omega)
    have ep : pk f 1 = (0 * 256 + f 0) := rfl
    rw [ep]
    constructor
    · intro y; exfalso; omega
    · intro y; exfalso; have y1 := y.1; omega
  | 2, _, _, h => by
    have h0 := h 0 (by omega)
    have h1 := h 1 (by omega)
    have ep : pk f 2 = ((0 * 256 + f 0) * 256 + f 1) := rfl
    rw [ep]
    constructor
    · intro y; exfalso; omega
    · intro y; exfalso; have y1 := y.1; omega
  | 3, _, _, h => by
    have h0 := h 0 (by omega)
    have h1 := h 1 (by omega)
    have h2 := h 2 (by omega)
    have ep : pk f 3 = (((0 * 256 + f 0) * 256 + f 1) * 256 + f 2) := rfl
    rw [ep]
    constructor
    · intro y; exfalso; omega
    · intro y; exfalso; have y1 := y.1; omega
  | 4, _, _, h => by
    have h0 := h 0 (by omega)
    have h1 := h 1 (by omega)
    have h2 := h 2 (by omega)
    have h3 := h 3 (by omega)
    have ep : pk f 4 = ((((0 * 256 + f 0) * 256 + f 1) * 256 + f 2) * 256 + f 3) := rfl
    rw [ep]
    constructor
    · intro y; refine ⟨rfl, ?_⟩; omega
    · intro y; have y2 := y.2; omega
  | 5, _, _, h => by
    have h0 := h 0 (by omega)
    have h1 := h 1 (by omega)
    have h2 := h 2 (by omega)
    have h3 := h 3 (by omega)
    have h4 := h 4 (by omega)
    have ep : pk f 5 = (((((0 * 256 + f 0) * 256 + f 1) * 256 + f 2) * 256 + f 3) * 256 + f 4) := rfl
    rw [ep]
    constructor
    · intro y; exfalso; omega
    · intro y; exfalso; have y1 := y.1; omega
  | 6, _, _, h => by
    have h0 := h 0 (by omega)
    have h1 := h 1 (by omega)
    have h2 := h 2 (by omega)
    have h3 := h 3 (by omega)
    have h4 := h 4 (by omega)
    have h5 := h 5 (by omega)
    have ep : pk f 6 = ((((((0 * 256 + f 0) * 256 + f 1) * 256 + f 2) * 256 + f 3) * 256 + f 4) * 256 + f 5) := rfl
    rw [ep]
    constructor
    · intro y; exfalso; omega
    · intro y; exfalso; have y1 := y.1; omega
  | n + 7, _, h, _ => by omega
theorem wd_14 {f : Nat → Nat} : ∀ L, 1 ≤ L → L ≤ 6 → (∀ i, i < L → 97 ≤ f i ∧ f i ≤ 122) → (pk f L = 495690081125 ↔ L = 5 ∧ f 0 = 115 ∧ f 1 = 105 ∧ f 2 = 110 ∧ f 3 = 99 ∧ f 4 = 101)
  | 0, h, _, _ => by omega
  | 1, _, _, h => by
    have h0 := h 0 (by omega)
    have ep : pk f 1 = (0 * 256 + f 0) := rfl
    rw [ep]
    constructor
    · intro y; exfalso; omega
    · intro y; exfalso; have y1 := y.1; omega
  | 2, _, _, h => by
    have h0 := h 0 (by omega)
    have h1 := h 1 (by omega)
    have ep : pk f 2 = ((0 * 256 + f 0) * 256 + f 1) := rfl
    rw [ep]
    constructor
    · intro y; exfalso; omega
    · intro y; exfalso; have y1 := y.1; omega
  | 3, _, _, h => by
    have h0 := h 0 (by omega)
    have h1 := h 1 (by omega)
    have h2 := h 2 (by omega)
    have ep : pk f 3 = (((0 * 256 + f 0) * 256 + f 1) * 256 + f 2) := rfl
    rw [ep]
    constructor
    · intro y; exfalso; omega
    · intro y; exfalso; have y1 := y.1; omega
  | 4, _, _, h => by
    have h0 := h 0 (by omega)
    have h1 := h 1 (by omega)
    have h2 := h 2 (by omega)
    have h3 := h 3 (by omega)
    have ep : pk f 4 = ((((0 * 256 + f 0) * 256 + f 1) * 256 + f 2) * 256 + f 3) := rfl
    rw [ep]
    constructor
    · intro y; exfalso; omega
    · intro y; exfalso; have y1 := y.1; omega
  | 5, _, _, h => by
    have h0 := h 0 (by omega)
    have h1 := h 1 (by omega)
    have h2 := h 2 (by omega)
    have h3 := h 3 (by omega)
    have h4 := h 4 (by omega)
    have ep : pk f 5 = (((((0 * 256 + f 0) * 256 + f 1) * 256 + f 2) * 256 + f 3) * 256 + f 4) := rfl
    rw [ep]
    constructor
    · intro y; refine ⟨rfl, ?_⟩; omega
    · intro y; have y2 := y.2; omega
  | 6, _, _, h => by
    have h0 := h 0 (by omega)
    have h1 := h 1 (by omega)
    have h2 := h 2 (by omega)
    have h3 := h 3 (by omega)
    have h4 := h 4 (by omega)
    have h5 := h 5 (by omega)
    have ep : pk f 6 = ((((((0 * 256 + f 0) * 256 + f 1) * 256 + f 2) * 256 + f 3) * 256 + f 4) * 256 + f 5) := rfl
    rw [ep]
    constructor
    · intro y; exfalso; omega
    · intro y; exfalso; have y1 := y.1; omega
  | n + 7, _, h, _ => by omega
theorem wd_15 {f : Nat → Nat} : ∀ L, 1 ≤ L → L ≤ 6 → (∀ i, i < L → 97 ≤ f i ∧ f i ≤ 122) → (pk f L = 1835102827 ↔ L = 4 ∧ f 0 = 109 ∧ f 1 = 97 ∧ f 2 = 114 ∧ f 3 = 107)
  | 0, h, _, _ => by omega
  | 1, _, _, h => by
    have h0 := h 0 (by omega)
    have ep : pk f 1 = (0 * 256 + f 0) := rfl
    rw [ep]
    constructor
    · intro y; exfalso; omega
    · intro y; exfalso; have y1 := y.1; omega
  | 2, _, _, h => by
    have h0 := h 0 (by omega)
    have h1 := h 1 (by omega)
    have ep : pk f 2 = ((0 * 256 + f 0) * 256 + f 1) := rfl
    rw [ep]
    constructor
    · intro y; exfalso; omega
    · intro y; exfalso; have y1 := y.1; omega
  | 3, _, _, h => by
    have h0 := h 0 (by omega)
    have h1 := h 1 (by omega)
    have h2 := h 2 (by omega)
    have ep : pk f 3 = (((0 * 256 + f 0) * 256 + f 1) * 256 + f 2) := rfl
    rw [ep]
    constructor
    · intro y; exfalso; omega
    · intro y; exfalso; have y1 := y.1; omega
  | 4, _, _, h => by
    have h0 := h 0 (by omega)
    have h1 := h 1 (by omega)
    have h2 := h 2 (by omega)
    have h3 := h 3 (by omega)
    have ep : pk f 4 = ((((0 * 256 + f 0) * 256 + f 1) * 256 + f 2) * 256 + f 3) := rfl
    rw [ep]
    constructor
    · intro y; refine ⟨rfl, ?_⟩; omega
    · intro y; have y2 := y.2; omega
  | 5, _, _, h => by
    have h0 := h 0 (by omega)
    have h1 := h 1 (by omega)
    have h2 := h 2 (by omega)
    have h3 := h 3 (by omega)
    have h4 := h 4 (by omega)
    have ep : pk f 5 = (((((0 * 256 + f 0) * 256 + f 1) * 256 + f 2) * 256 + f 3) * 256 + f 4) := rfl
    rw [ep]
    constructor
    · intro y; exfalso; omega
    · intro y; exfalso; have y1 := y.1; omega
  | 6, _, _, h => by
    have h0 := h 0 (by omega)
    have h1 := h 1 (by omega)
    have h2 := h 2 (by omega)
    have h3 := h 3 (by omega)
    have h4 := h 4 (by omega)
    have h5 := h 5 (by omega)
    have ep : pk f 6 = ((((((0 * 256 + f 0) * 256 + f 1) * 256 + f 2) * 256 + f 3) * 256 + f 4) * 256 + f 5) := rfl
    rw [ep]
    constructor
    · intro y; exfalso; omega
    · intro y; exfalso; have y1 := y.1; omega
  | n + 7, _, h, _ => by omega
theorem wd_16 {f : Nat → Nat} : ∀ L, 1 ≤ L → L ≤ 6 → (∀ i, i < L → 97 ≤ f i ∧ f i ≤ 122) → (pk f L = 469786780261 ↔ L = 5 ∧ f 0 = 109 ∧ f 1 = 97 ∧ f 2 = 121 ∧ f 3 = 98 ∧ f 4 = 101)
  | 0, h, _, _ => by omega
  | 1, _, _, h => by
    have h0 := h 0 (by omega)
    have ep : pk f 1 = (0 * 256 + f 0) := rfl
    rw [ep]
    constructor
    · intro y; exfalso; omega
    · intro y; exfalso; have y1 := y.1; omega
  | 2, _, _, h => by
    have h0 := h 0 (by omega)
    have h1 := h 1 (by omega)
    have ep : pk f 2 = ((0 * 256 + f 0) * 256 + f 1) := rfl
    rw [ep]
    constructor
    · intro y; exfalso; omega
    · intro y; exfalso; have y1 := y.1; omega
  | 3, _, _, h => by
    have h0 := h 0 (by omega)
    have h1 := h 1 (by omega)
    have h2 := h 2 (by omega)
    have ep : pk f 3 = (((0 * 256 + f 0) * 256 + f 1) * 256 + f 2) := rfl
    rw [ep]
    constructor
    · intro y; exfalso; omega
    · intro y; exfalso; have y1 := y.1; omega
  | 4, _, _, h => by
    have h0 := h 0 (by omega)
    have h1 := h 1 (by omega)
    have h2 := h 2 (by omega)
    have h3 := h 3 (by omega)
    have ep : pk f 4 = ((((0 * 256 + f 0) * 256 + f 1) * 256 + f 2) * 256 + f 3) := rfl
    rw [ep]
    constructor
    · intro y; exfalso; omega
    · intro y; exfalso; have y1 := y.1; omega
  | 5, _, _, h => by
    have h0 := h 0 (by omega)
    have h1 := h 1 (by omega)
    have h2 := h 2 (by omega)
    have h3 := h 3 (by omega)
    have h4 := h 4 (by omega)
    have ep : pk f 5 = (((((0 * 256 + f 0) * 256 + f 1) * 256 + f 2) * 256 + f 3) * 256 + f 4) := rfl
    rw [ep]
    constructor
    · intro y; refine ⟨rfl, ?_⟩; omega
    · intro y; have y2 := y.2; omega
  | 6, _, _, h => by
    have h0 := h 0 (by omega)
    have h1 := h 1 (by omega)
    have h2 := h 2 (by omega)
    have h3 := h 3 (by omega)
    have h4 := h 4 (by omega)
    have h5 := h 5 (by omega)
    have ep : pk f 6 = ((((((0 * 256 + f 0) * 256 + f 1) * 256 + f 2) * 256 + f 3) * 256 + f 4) * 256 + f 5) := rfl
    rw [ep]
    constructor
    · intro y; exfalso; omega
    · intro y; exfalso; have y1 := y.1; omega
  | n + 7, _, h, _ => by omega
theorem wd_20 {f : Nat → Nat} : ∀ L, 1 ≤ L → L ≤ 6 → (∀ i, i < L → 97 ≤ f i ∧ f i ≤ 122) → (pk f L = 1701606245 ↔ L = 4 ∧ f 0 = 101 ∧ f 1 = 108 ∧ f 2 = 115 ∧ f 3 = 101)
  | 0, h, _, _ => by omega
  | 1, _, _, h => by
    have h0 := h 0 (by omega)
    have ep : pk f 1 = (0 * 256 + f 0) := rfl
    rw [ep]
    constructor
    · intro y; exfalso; omega
    · intro y; exfalso; have y1 := y.1; omega
  | 2, _, _, h => by
    have h0 := h 0 (by omega)
    have h1 := h 1 (by omega)
    have ep : pk f 2 = ((0 * 256 + f 0) * 256 + f 1) := rfl
    rw [ep]
    constructor
    · intro y; exfalso; omega
    · intro y; exfalso; have y1 := y.1; omega
  | 3, _, _, h => by
    have h0 := h 0 (by omega)
    have h1 := h 1 (by omega)
    have h2 := h 2 (by omega)
    have ep : pk f 3 = (((0 * 256 + f 0) * 256 + f 1) * 256 + f 2) := rfl
    rw [ep]
    constructor
    · intro y; exfalso; omega
    · intro y; exfalso; have y1 := y.1; omega
  | 4, _, _, h => by
    have h0 := h 0 (by omega)
    have h1 := h 1 (by omega)
    have h2 := h 2 (by omega)
    have h3 := h 3 (by omega)
    have ep : pk f 4 = ((((0 * 256 + f 0) * 256 + f 1) * 256 + f 2) * 256 + f 3) := rfl
    rw [ep]
    constructor
    · intro y; refine ⟨rfl, ?_⟩; omega
    · intro y; have y2 := y.2; omega
  | 5, _, _, h => by
    have h0 := h 0 (by omega)
    have h1 := h 1 (by omega)
    have h2 := h 2 (by omega)
    have h3 := h 3 (by omega)
    have h4 := h 4 (by omega)
    have ep : pk f 5 = (((((0 * 256 + f 0) * 256 + f 1) * 256 + f 2) * 256 + f 3) * 256 + f 4) := rfl
    rw [ep]
    constructor
    · intro y; exfalso; omega
    · intro y; exfalso; have y1 := y.1; omega
  | 6, _, _, h => by
    have h0 := h 0 (by omega)
    have h1 := h 1 (by omega)
    have h2 := h 2 (by omega)
    have h3 := h 3 (by omega)
    have h4 := h 4 (by omega)
    have h5 := h 5 (by omega)
    have ep : pk f 6 = ((((((0 * 256 + f 0) * 256 + f 1) * 256 + f 2) * 256 + f 3) * 256 + f 4) * 256 + f 5) := rfl
    rw [ep]
    constructor
    · intro y; exfalso; omega
    · intro y; exfalso; have y1 := y.1; omega
  | n + 7, _, h, _ => by omega
theorem wd_21 {f : Nat → Nat} : ∀ L, 1 ≤ L → L ≤ 6 → (∀ i, i < L → 97 ≤ f i ∧ f i ≤ 122) → (pk f L = 26990 ↔ L = 2 ∧ f 0 = 105 ∧ f 1 = 110)
  | 0, h, _, _ => by omega
  | 1, _, _, h => by
    have h0 := h 0 (by omega)
    have ep : pk f 1 = (0 * 256 + f 0) := rfl
    rw [ep]
    constructor
    · intro y; exfalso; omega
    · intro y; exfalso; have y1 := y.1; omega
  | 2, _, _, h => by
    have h0 := h 0 (by omega)
    have h1 := h 1 (by omega)
    have ep : pk f 2 = ((0 * 256 + f 0) * 256 + f 1) := rfl
    rw [ep]
    constructor
    · intro y; refine ⟨rfl, ?_⟩; omega
    · intro y; have y2 := y.2; omega
  | 3, _, _, h => by
    have h0 := h 0 (by omega)
    have h1 := h 1 (by omega)
    have h2 := h 2 (by omega)
    have ep : pk f 3 = (((0 * 256 + f 0) * 256 + f 1) * 256 + f 2) := rfl
    rw [ep]
    constructor
    · intro y; exfalso; omega
    · intro y; exfalso; have y1 := y.1; omega
  | 4, _, _, h => by
    have h0 := h 0 (by omega)
    have h1 := h 1 (by omega)
    have h2 := h 2 (by omega)
    have h3 := h 3 (by omega)
    have ep : pk f 4 = ((((0 * 256 + f 0) * 256 + f 1) * 256 + f 2) * 256 + f 3) := rfl
    rw [ep]
    constructor
    · intro y; exfalso; omega
    · intro y; exfalso; have y1 := y.1; omega
  | 5, _, _, h => by
    have h0 := h 0 (by omega)
    have h1 := h 1 (by omega)
    have h2 := h 2 (by omega)
    have h3 := h 3 (by omega)
    have h4 := h 4 (by omega)
    have ep : pk f 5 = (((((0 * 256 + f 0) * 256 + f 1) * 256 + f 2) * 256 + f 3) * 256 + f 4) := rfl
    rw [ep]
    constructor
    · intro y; exfalso; omega
    · intro y; exfalso; have y1 := y.1; omega
  | 6, _, _, h => by
    have h0 := h 0 (by omega)
    have h1 := h 1 (by omega)
    have h2 := h 2 (by omega)
    have h3 := h 3 (by omega)
    have h4 := h 4 (by omega)
    have h5 := h 5 (by omega)
    have ep : pk f 6 = ((((((0 * 256 + f 0) * 256 + f 1) * 256 + f 2) * 256 + f 3) * 256 + f 4) * 256 + f 5) := rfl
    rw [ep]
    constructor
    · intro y; exfalso; omega
    · intro y; exfalso; have y1 := y.1; omega
  | n + 7, _, h, _ => by omega
/-- where the two readers stand -/
def jp (sC : Nat → Int32) (rC : Nat → Nat → Int32) (sM : Nat → Int32) (rM : Nat → Nat → Int32) (e p : Nat) : Prop := rC 60 = rM 60 ∧ (∀ j, 0 ≤ (rM 60 j).toInt ∧ (rM 60 j).toInt ≤ 255) ∧ (e ≤ 400 ∧ p ≤ e) ∧ sC 61 = nI e ∧ sM 62 = nI e ∧ sC 102 = nI p ∧ sM 63 = nI p
section JW
variable {sC sM : Nat → Int32} {rC rM : Nat → Nat → Int32} {e p : Nat}
theorem jp.tl (h : jp sC rC sM rM e p) : tL sC = e := by
  unfold tL; rw [h.2.2.2.1]; exact ix_nI (by have := h.2.2.1.1; omega)
theorem jp.te (h : jp sC rC sM rM e p) : tE sM = e := by
  unfold tE; rw [h.2.2.2.2.1]; exact ix_nI (by have := h.2.2.1.1; omega)
theorem jp.b (h : jp sC rC sM rM e p) : kBg sC rC = aSg sM rM := by
  unfold kBg aSg
  rw [h.tl, h.te, h.1, h.2.2.2.2.2.1, h.2.2.2.2.2.2]
theorem jp.B (h : jp sC rC sM rM e p) : tB sM := by
  have q := h.2.2.1
  unfold tB
  rw [h.2.2.2.2.1, h.2.2.2.2.2.2, nI_toInt (by omega), nI_toInt (by omega)]
  omega
theorem jp.be (h : jp sC rC sM rM e p) : p ≤ aSg sM rM ∧ aSg sM rM ≤ e := by
  have a := aSg_le (r := rM) h.B
  have b := aSg_ge sM rM
  rw [h.te] at a
  rw [h.2.2.2.2.2.2, ix_nI (by have := h.2.2.1; omega)] at b
  exact ⟨b, a⟩
theorem ad_101 (s : Nat → Int32) (r : Nat → Nat → Int32) : adS s r 101 = nI (kBg s r) := rfl
theorem ad_102 (s : Nat → Int32) (r : Nat → Nat → Int32) : adS s r 102 = nI (kBh s r (kBg s r)) := rfl
theorem ad_103 (s : Nat → Int32) (r : Nat → Nat → Int32) : adS s r 103 = kKd s r (kBg s r) := rfl
theorem ad_o (s : Nat → Int32) (r : Nat → Nat → Int32) {f : Nat} (h1 : ¬ f = 101) (h2 : ¬ f = 102) (h3 : ¬ f = 103) : adS s r f = s f := by
  unfold adS adB
  simp only [upd, h1, h2, h3, if_false]
/-- the same word is read -/
theorem jp_w (h : jp sC rC sM rM e p) (w : Nat) (code : Nat) (hc : code < 2 ^ 62) (hn : kLen.getD w 0 ≤ 6 ∧ 1 ≤ kLen.getD w 0) (cd : Int64) (hcd : cd = Int64.ofNat code)
    (hw : ∀ (f : Nat → Nat) L, 1 ≤ L → L ≤ 6 → (∀ i, i < L → 97 ≤ f i ∧ f i ≤ 122) → (pk f L = code ↔ L = kLen.getD w 0 ∧ ∀ i, i < kLen.getD w 0 → nI (f i) = kCh w i)) : kIw w (adS sC rC) rC = fIw cd sM rM := by
  have q := h.2.2.1
  have bb := h.be
  unfold kIw fIw
  rw [ad_101, ad_102, ad_103, h.b]
  generalize hb : aSg sM rM = b at *
  have hW : bWe sM rM = wen (rM 60) e (1 + e) b := by
    unfold bWe aWe
    have te : tE (sSg sM rM) = e := h.te
    rw [te]
    show wen (rM 60) e (1 + e) (Int32.toNatClampNeg (nI (aSg sM rM))) = _
    rw [hb, ix_nI (by omega)]
  unfold kKd kBh
  rw [h.tl, h.1]
  by_cases c0 : e ≤ b
  · rw [hW, Nat.add_comm 1 e, wen_eq (Or.inl c0), if_pos c0, if_neg (by decide), if_pos (Nat.le_refl _)]
  rw [if_neg c0]
  by_cases c1 : fLe (rM 60 b) = 0
  · rw [hW, Nat.add_comm 1 e, wen_eq (Or.inr c1), if_pos c1, if_pos (Nat.le_refl _)]
    rw [if_neg]
    split <;> decide
  rw [if_neg c1, if_pos rfl, if_neg c0, if_neg c1]
  have g := wen_gt (n := e) (t := rM 60) (e := e) (i := b) (by omega) c1
  rw [Nat.add_comm e 1] at g
  rw [hW]
  have hle := (wen_le (rM 60) e (1 + e) b).2 (by omega)
  have sp := wen_sp (rM 60) e (1 + e) b
  have hV : vWd sM rM = wvl (rM 60) (wen (rM 60) e (1 + e) b) (b + 7) 8 b 0 := by
    unfold vWd
    rw [hW, hb]
  rw [hV]
  generalize wen (rM 60) e (1 + e) b = W at *
  rw [if_neg (show ¬ W ≤ b by omega)]
  have es : nI W - nI b = nI (W - b) := by
    apply Int32.toInt_inj.mp
    have a1 := nI_toInt (n := W) (by omega)
    have a2 := nI_toInt (n := b) (by omega)
    have a3 := nI_toInt (n := W - b) (by omega)
    rw [t_sub (by omega) (by omega)]
    omega
  rw [es]
  by_cases c2 : 7 ≤ W - b
  · rw [if_pos c2, if_neg]
    intro z
    have := nI_jn (by omega) (by omega) z
    omega
  rw [if_neg c2]
  have lt : ∀ i, b + i < W → rM 60 (b + i) = nI ((rM 60 (b + i)).toNatClampNeg) ∧ (rM 60 (b + i)).toNatClampNeg < 256 ∧ 97 ≤ (rM 60 (b + i)).toNatClampNeg ∧ (rM 60 (b + i)).toNatClampNeg ≤ 122 := by
    intro i hi
    have s1 := le_b (sp (b + i) (by omega) hi).1
    have s2 := t_ix (x := rM 60 (b + i)) (by omega)
    exact ⟨(t_ixn (by omega)).symm, by omega, by omega, by omega⟩
  have hv := wvl_p (t := rM 60) (f := fun i => (rM 60 (b + i)).toNatClampNeg) (b := b) (w := W) (by omega) (fun i hi => ⟨(lt i hi).1, (lt i hi).2.1⟩) (W - b) 0 8 (by omega) (by omega) Nat.zero_lt_one
  rw [Nat.zero_add] at hv
  have hv' : wvl (rM 60) W (b + 7) 8 b 0 = Int64.ofNat (pk (fun i => (rM 60 (b + i)).toNatClampNeg) (W - b)) := hv
  rw [hv', hcd]
  have key := hw (fun i => (rM 60 (b + i)).toNatClampNeg) (W - b) (by omega) (by omega) (fun i hi => (lt i (by omega)).2.2)
  have plt : pk (fun i => (rM 60 (b + i)).toNatClampNeg) (W - b) < 256 ^ (W - b) := by
    have : ∀ n, n ≤ W - b → pk (fun i => (rM 60 (b + i)).toNatClampNeg) n < 256 ^ n := by
      intro n
      induction n with
      | zero => intro _; exact Nat.zero_lt_one
      | succ n ih =>
        intro hn'
        have a := ih (by omega)
        have b2 := (lt n (by omega)).2.1
        show pk _ n * 256 + (rM 60 (b + n)).toNatClampNeg < _
        rw [Nat.pow_succ]
        omega
    exact this _ (Nat.le_refl _)
  have p62 : (256 : Nat) ^ (W - b) ≤ 256 ^ 6 := Nat.pow_le_pow_right (by decide) (by omega)
  have e62 : (256 : Nat) ^ 6 < 2 ^ 62 := by decide
  by_cases c3 : W - b = kLen.getD w 0
  · rw [if_pos (by rw [c3])]
    have iff1 := iwF_iff w (kB8 rC) (nI b).toNatClampNeg (1 + kLen.getD w 0) 0 (by omega)
    have iff2 : (∀ j, 0 ≤ j → j < kLen.getD w 0 → kB8 rC ((nI b).toNatClampNeg + j) = kCh w j) ↔ pk (fun i => (rM 60 (b + i)).toNatClampNeg) (W - b) = code := by
      rw [key, ix_nI (by omega)]
      have cv : ∀ j, j < kLen.getD w 0 → kB8 rC (b + j) = nI ((rM 60 (b + j)).toNatClampNeg) := by
        intro j hj
        have l := lt j (by omega)
        unfold kB8
        rw [h.1]
        have := b8_id (rM 60 (b + j)).toNatClampNeg (by omega)
        rw [← l.1] at this
        exact this.trans l.1
      exact ⟨fun y => ⟨c3, fun i hi => (cv i hi).symm.trans (y i (Nat.zero_le _) hi)⟩, fun y j _ hj => (cv j hj).trans (y.2 j hj)⟩
    by_cases c4 : pk (fun i => (rM 60 (b + i)).toNatClampNeg) (W - b) = code
    · rw [if_pos ((lg_cmp_eq _ _).mpr (by rw [c4]))]
      exact iff1.mpr (iff2.mpr c4)
    · rw [if_neg (fun y => c4 ((i64_i (by omega) hc).mp ((lg_cmp_eq _ _).mp y)))]
      rcases iwF_01 w (kB8 rC) (nI b).toNatClampNeg (1 + kLen.getD w 0) 0 with y | y
      · exact y
      · exact absurd (iff2.mp (iff1.mp y)) c4
  · rw [if_neg (fun y => c3 (nI_jn (by omega) (by omega) y)), if_neg]
    intro y
    exact c3 (key.mp ((i64_i (by omega) hc).mp ((lg_cmp_eq _ _).mp y))).1
theorem jp_w12 (h : jp sC rC sM rM e p) : kIw 12 (adS sC rC) rC = fIw 24948 sM rM := by
  refine jp_w h 12 24948 (by decide) (by decide) _ (by decide) (fun f L h1 h2 h3 => ?_)
  rw [wd_12 L h1 h2 h3, show kLen.getD 12 0 = 2 from rfl]
  refine and_congr_right (fun hL => ?_)
  subst hL
  have nn : ∀ a b : Nat, a ≤ 300 → b ≤ 300 → (nI a = nI b ↔ a = b) := fun a b ha hb => ⟨fun y => nI_jn (by omega) (by omega) y, fun y => by rw [y]⟩
  constructor
  · intro y i hi'
    have y0 := h3 0 (by decide)
    have y1 := h3 1 (by decide)
    match i, hi' with
    | 0, _ => rw [show f 0 = 97 from by omega]; decide
    | 1, _ => rw [show f 1 = 116 from by omega]; decide
    | n + 2, hh => omega
  · intro y
    have y0 := h3 0 (by decide)
    have z0 := (nn (f 0) 97 (by omega) (by omega)).mp ((y 0 (by decide)).trans (by decide))
    have y1 := h3 1 (by decide)
    have z1 := (nn (f 1) 116 (by omega) (by omega)).mp ((y 1 (by decide)).trans (by decide))
    omega
theorem jp_w13 (h : jp sC rC sM rM e p) : kIw 13 (adS sC rC) rC = fIw 1751738216 sM rM := by
  refine jp_w h 13 1751738216 (by decide) (by decide) _ (by decide) (fun f L h1 h2 h3 => ?_)
  rw [wd_13 L h1 h2 h3, show kLen.getD 13 0 = 4 from rfl]
  refine and_congr_right (fun hL => ?_)
  subst hL
  have nn : ∀ a b : Nat, a ≤ 300 → b ≤ 300 → (nI a = nI b ↔ a = b) := fun a b ha hb => ⟨fun y => nI_jn (by omega) (by omega) y, fun y => by rw [y]⟩
  constructor
  · intro y i hi'
    have y0 := h3 0 (by decide)
    have y1 := h3 1 (by decide)
    have y2 := h3 2 (by decide)
    have y3 := h3 3 (by decide)
    match i, hi' with
    | 0, _ => rw [show f 0 = 104 from by omega]; decide
    | 1, _ => rw [show f 1 = 105 from by omega]; decide
    | 2, _ => rw [show f 2 = 103 from by omega]; decide
    | 3, _ => rw [show f 3 = 104 from by omega]; decide
    | n + 4, hh => omega
  · intro y
    have y0 := h3 0 (by decide)
    have z0 := (nn (f 0) 104 (by omega) (by omega)).mp ((y 0 (by decide)).trans (by decide))
    have y1 := h3 1 (by decide)
    have z1 := (nn (f 1) 105 (by omega) (by omega)).mp ((y 1 (by decide)).trans (by decide))
    have y2 := h3 2 (by decide)
    have z2 := (nn (f 2) 103 (by omega) (by omega)).mp ((y 2 (by decide)).trans (by decide))
    have y3 := h3 3 (by decide)
    have z3 := (nn (f 3) 104 (by omega) (by omega)).mp ((y 3 (by decide)).trans (by decide))
    omega
theorem jp_w14 (h : jp sC rC sM rM e p) : kIw 14 (adS sC rC) rC = fIw 495690081125 sM rM := by
  refine jp_w h 14 495690081125 (by decide) (by decide) _ (by decide) (fun f L h1 h2 h3 => ?_)
  rw [wd_14 L h1 h2 h3, show kLen.getD 14 0 = 5 from rfl]
  refine and_congr_right (fun hL => ?_)
  subst hL
  have nn : ∀ a b : Nat, a ≤ 300 → b ≤ 300 → (nI a = nI b ↔ a = b) := fun a b ha hb => ⟨fun y => nI_jn (by omega) (by omega) y, fun y => by rw [y]⟩
  constructor
  · intro y i hi'
    have y0 := h3 0 (by decide)
    have y1 := h3 1 (by decide)
    have y2 := h3 2 (by decide)
    have y3 := h3 3 (by decide)
    have y4 := h3 4 (by decide)
    match i, hi' with
    | 0, _ => rw [show f 0 = 115 from by omega]; decide
    | 1, _ => rw [show f 1 = 105 from by omega]; decide
    | 2, _ => rw [show f 2 = 110 from by omega]; decide
    | 3, _ => rw [show f 3 = 99 from by omega]; decide
    | 4, _ => rw [show f 4 = 101 from by omega]; decide
    | n + 5, hh => omega
  · intro y
    have y0 := h3 0 (by decide)
    have z0 := (nn (f 0) 115 (by omega) (by omega)).mp ((y 0 (by decide)).trans (by decide))
    have y1 := h3 1 (by decide)
    have z1 := (nn (f 1) 105 (by omega) (by omega)).mp ((y 1 (by decide)).trans (by decide))
    have y2 := h3 2 (by decide)
    have z2 := (nn (f 2) 110 (by omega) (by omega)).mp ((y 2 (by decide)).trans (by decide))
    have y3 := h3 3 (by decide)
    have z3 := (nn (f 3) 99 (by omega) (by omega)).mp ((y 3 (by decide)).trans (by decide))
    have y4 := h3 4 (by decide)
    have z4 := (nn (f 4) 101 (by omega) (by omega)).mp ((y 4 (by decide)).trans (by decide))
    omega
theorem jp_w15 (h : jp sC rC sM rM e p) : kIw 15 (adS sC rC) rC = fIw 1835102827 sM rM := by
  refine jp_w h 15 1835102827 (by decide) (by decide) _ (by decide) (fun f L h1 h2 h3 => ?_)
  rw [wd_15 L h1 h2 h3, show kLen.getD 15 0 = 4 from rfl]
  refine and_congr_right (fun hL => ?_)
  subst hL
  have nn : ∀ a b : Nat, a ≤ 300 → b ≤ 300 → (nI a = nI b ↔ a = b) := fun a b ha hb => ⟨fun y => nI_jn (by omega) (by omega) y, fun y => by rw [y]⟩
  constructor
  · intro y i hi'
    have y0 := h3 0 (by decide)
    have y1 := h3 1 (by decide)
    have y2 := h3 2 (by decide)
    have y3 := h3 3 (by decide)
    match i, hi' with
    | 0, _ => rw [show f 0 = 109 from by omega]; decide
    | 1, _ => rw [show f 1 = 97 from by omega]; decide
    | 2, _ => rw [show f 2 = 114 from by omega]; decide
    | 3, _ => rw [show f 3 = 107 from by omega]; decide
    | n + 4, hh => omega
  · intro y
    have y0 := h3 0 (by decide)
    have z0 := (nn (f 0) 109 (by omega) (by omega)).mp ((y 0 (by decide)).trans (by decide))
    have y1 := h3 1 (by decide)
    have z1 := (nn (f 1) 97 (by omega) (by omega)).mp ((y 1 (by decide)).trans (by decide))
    have y2 := h3 2 (by decide)
    have z2 := (nn (f 2) 114 (by omega) (by omega)).mp ((y 2 (by decide)).trans (by decide))
    have y3 := h3 3 (by decide)
    have z3 := (nn (f 3) 107 (by omega) (by omega)).mp ((y 3 (by decide)).trans (by decide))
    omega
theorem jp_w16 (h : jp sC rC sM rM e p) : kIw 16 (adS sC rC) rC = fIw 469786780261 sM rM := by
  refine jp_w h 16 469786780261 (by decide) (by decide) _ (by decide) (fun f L h1 h2 h3 => ?_)
  rw [wd_16 L h1 h2 h3, show kLen.getD 16 0 = 5 from rfl]
  refine and_congr_right (fun hL => ?_)
  subst hL
  have nn : ∀ a b : Nat, a ≤ 300 → b ≤ 300 → (nI a = nI b ↔ a = b) := fun a b ha hb => ⟨fun y => nI_jn (by omega) (by omega) y, fun y => by rw [y]⟩
  constructor
  · intro y i hi'
    have y0 := h3 0 (by decide)
    have y1 := h3 1 (by decide)
    have y2 := h3 2 (by decide)
    have y3 := h3 3 (by decide)
    have y4 := h3 4 (by decide)
    match i, hi' with
    | 0, _ => rw [show f 0 = 109 from by omega]; decide
    | 1, _ => rw [show f 1 = 97 from by omega]; decide
    | 2, _ => rw [show f 2 = 121 from by omega]; decide
    | 3, _ => rw [show f 3 = 98 from by omega]; decide
    | 4, _ => rw [show f 4 = 101 from by omega]; decide
    | n + 5, hh => omega
  · intro y
    have y0 := h3 0 (by decide)
    have z0 := (nn (f 0) 109 (by omega) (by omega)).mp ((y 0 (by decide)).trans (by decide))
    have y1 := h3 1 (by decide)
    have z1 := (nn (f 1) 97 (by omega) (by omega)).mp ((y 1 (by decide)).trans (by decide))
    have y2 := h3 2 (by decide)
    have z2 := (nn (f 2) 121 (by omega) (by omega)).mp ((y 2 (by decide)).trans (by decide))
    have y3 := h3 3 (by decide)
    have z3 := (nn (f 3) 98 (by omega) (by omega)).mp ((y 3 (by decide)).trans (by decide))
    have y4 := h3 4 (by decide)
    have z4 := (nn (f 4) 101 (by omega) (by omega)).mp ((y 4 (by decide)).trans (by decide))
    omega
theorem jp_w20 (h : jp sC rC sM rM e p) : kIw 20 (adS sC rC) rC = fIw 1701606245 sM rM := by
  refine jp_w h 20 1701606245 (by decide) (by decide) _ (by decide) (fun f L h1 h2 h3 => ?_)
  rw [wd_20 L h1 h2 h3, show kLen.getD 20 0 = 4 from rfl]
  refine and_congr_right (fun hL => ?_)
  subst hL
  have nn : ∀ a b : Nat, a ≤ 300 → b ≤ 300 → (nI a = nI b ↔ a = b) := fun a b ha hb => ⟨fun y => nI_jn (by omega) (by omega) y, fun y => by rw [y]⟩
  constructor
  · intro y i hi'
    have y0 := h3 0 (by decide)
    have y1 := h3 1 (by decide)
    have y2 := h3 2 (by decide)
    have y3 := h3 3 (by decide)
    match i, hi' with
    | 0, _ => rw [show f 0 = 101 from by omega]; decide
    | 1, _ => rw [show f 1 = 108 from by omega]; decide
    | 2, _ => rw [show f 2 = 115 from by omega]; decide
    | 3, _ => rw [show f 3 = 101 from by omega]; decide
    | n + 4, hh => omega
  · intro y
    have y0 := h3 0 (by decide)
    have z0 := (nn (f 0) 101 (by omega) (by omega)).mp ((y 0 (by decide)).trans (by decide))
    have y1 := h3 1 (by decide)
    have z1 := (nn (f 1) 108 (by omega) (by omega)).mp ((y 1 (by decide)).trans (by decide))
    have y2 := h3 2 (by decide)
    have z2 := (nn (f 2) 115 (by omega) (by omega)).mp ((y 2 (by decide)).trans (by decide))
    have y3 := h3 3 (by decide)
    have z3 := (nn (f 3) 101 (by omega) (by omega)).mp ((y 3 (by decide)).trans (by decide))
    omega
theorem jp_w21 (h : jp sC rC sM rM e p) : kIw 21 (adS sC rC) rC = fIw 26990 sM rM := by
  refine jp_w h 21 26990 (by decide) (by decide) _ (by decide) (fun f L h1 h2 h3 => ?_)
  rw [wd_21 L h1 h2 h3, show kLen.getD 21 0 = 2 from rfl]
  refine and_congr_right (fun hL => ?_)
  subst hL
  have nn : ∀ a b : Nat, a ≤ 300 → b ≤ 300 → (nI a = nI b ↔ a = b) := fun a b ha hb => ⟨fun y => nI_jn (by omega) (by omega) y, fun y => by rw [y]⟩
  constructor
  · intro y i hi'
    have y0 := h3 0 (by decide)
    have y1 := h3 1 (by decide)
    match i, hi' with
    | 0, _ => rw [show f 0 = 105 from by omega]; decide
    | 1, _ => rw [show f 1 = 110 from by omega]; decide
    | n + 2, hh => omega
  · intro y
    have y0 := h3 0 (by decide)
    have z0 := (nn (f 0) 105 (by omega) (by omega)).mp ((y 0 (by decide)).trans (by decide))
    have y1 := h3 1 (by decide)
    have z1 := (nn (f 1) 110 (by omega) (by omega)).mp ((y 1 (by decide)).trans (by decide))
    omega
end JW
