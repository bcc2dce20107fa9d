/-! what holds between the calls -/
def j19 (x : Int32) : Prop := 0 ≤ x.toInt ∧ x.toInt ≤ 19
def j31 (x : Int32) : Prop := x = -1 ∨ (0 ≤ x.toInt ∧ x.toInt ≤ 743)
def j012 (x : Int32) : Prop := x = 0 ∨ x = 1 ∨ x = 2
def jV : Nat → Int32 → Prop
  | 7, x => j19 x
  | 8, x => j19 x
  | 13, x => j31 x
  | 15, x => j012 x
  | 18, x => j19 x
  | 19, x => j19 x
  | 27, x => j19 x
  | 28, x => j19 x
  | 29, x => 0 ≤ x.toInt ∧ x.toInt ≤ 20
  | 34, x => j012 x
  | 41, x => 0 ≤ x.toInt
  | 42, x => j19 x
  | 43, x => j19 x
  | 46, x => j31 x
  | 60, x => 0 ≤ x.toInt ∧ x.toInt ≤ 255
  | _, _ => True
def jE (r : Nat → Nat → Int32) : Prop := ∀ f j, jV f (r f j)
theorem jE_up {r : Nat → Nat → Int32} {g i : Nat} {x : Int32} (h : jE r) (hx : jV g x) : jE (up2 r g i x) := by
  intro f j
  rw [up2_e]
  by_cases c : f = g ∧ j = i
  · rw [if_pos c, c.1]; exact hx
  · rw [if_neg c]; exact h f j
def jN (s : Nat → Int32) : Prop := (0 ≤ (s 1).toInt ∧ (s 1).toInt ≤ 743) ∧ (0 ≤ (s 6).toInt ∧ (s 6).toInt ≤ 20) ∧ (0 ≤ (s 14).toInt ∧ (s 14).toInt ≤ 60) ∧ (0 ≤ (s 26).toInt ∧ (s 26).toInt ≤ 12) ∧ (0 ≤ (s 39).toInt ∧ (s 39).toInt ≤ 60) ∧ (0 ≤ (s 52).toInt ∧ (s 52).toInt ≤ 10) ∧ (0 ≤ (s 57).toInt ∧ (s 57).toInt ≤ 12) ∧ (0 ≤ (s 61).toInt ∧ (s 61).toInt ≤ 400)
def jP (s : Nat → Int32) (r : Nat → Nat → Int32) : Prop := ∀ j, j < (s 26).toNatClampNeg → 1 ≤ (r 31 j).toInt ∧ (r 31 j).toInt ≤ 10
def jX (r : Nat → Nat → Int32) : Prop := ∀ j, r 34 j = 1 → 1 ≤ (r 29 j).toInt
def jK (s : Nat → Int32) (r : Nat → Nat → Int32) : Prop := ∀ j, r 34 j = 1 → 0 ≤ (r 37 j).toInt ∧ (r 37 j).toInt < (s 39).toInt
def jW (s : Nat → Int32) (r : Nat → Nat → Int32) : Prop := ∀ j, r 15 j = 1 → (0 ≤ (r 25 j).toInt ∧ (r 25 j).toInt < (s 39).toInt) ∧ 0 ≤ (r 24 j).toInt ∧ (r 24 j).toInt ≤ 743
def j36 (s : Nat → Int32) (r : Nat → Nat → Int32) : Prop := ∀ j, (s 26).toNatClampNeg ≤ j → r 36 j = 0
def jZ (s : Nat → Int32) (r : Nat → Nat → Int32) : Prop := jP s r ∧ jX r ∧ jK s r ∧ jW s r ∧ j36 s r
def jL (rC : Nat → Nat → Int32) (sM : Nat → Int32) (rM : Nat → Nat → Int32) (k d : Nat) : Prop := d ≤ 16 ∧ rM 54 k = nI d ∧ rC 101 d = rM 55 k ∧ (1 ≤ (rM 55 k).toInt ∧ (rM 55 k).toInt ≤ 12) ∧ ∀ i, i < (rM 55 k).toNatClampNeg → rC (110 + d) i = rM 56 (12 * k + i) ∧ 0 ≤ (rM 56 (12 * k + i)).toInt ∧ (rM 56 (12 * k + i)).toInt < (sM 26).toInt
def jQt (rC : Nat → Nat → Int32) (sM : Nat → Int32) (rM : Nat → Nat → Int32) : Prop := (∀ k, k < (sM 52).toNatClampNeg → ∃ d, jL rC sM rM k d) ∧ (∀ k q, k < (sM 52).toNatClampNeg → q < (sM 52).toNatClampNeg → rM 54 k = rM 54 q → k = q) ∧ (∀ d, d ≤ 16 → (∀ k, k < (sM 52).toNatClampNeg → ¬ rM 54 k = nI d) → rC 101 d = 0)
def jQ (rC : Nat → Nat → Int32) (sM : Nat → Int32) (rM : Nat → Nat → Int32) : Prop := (0 ≤ (sM 40).toInt ∧ (sM 40).toInt ≤ 200) ∧ jQt rC sM rM
/-- all that holds between the calls -/
def jI (sC : Nat → Int32) (rC : Nat → Nat → Int32) (sM : Nat → Int32) (rM : Nat → Nat → Int32) : Prop := qR sC rC sM rM ∧ jN sM ∧ jE rM ∧ jZ sM rM ∧ jQ rC sM rM
section JI
variable {sC sM sC' sM' : Nat → Int32} {rC rM rC' rM' : Nat → Nat → Int32}
theorem jQ_eq (h : jQ rC sM rM) (h1 : rC' 101 = rC 101) (h2 : ∀ d, d ≤ 16 → rC' (110 + d) = rC (110 + d)) (h3 : sM' 52 = sM 52) (h4 : (sM 26).toInt ≤ (sM' 26).toInt) (h5 : rM' 54 = rM 54) (h6 : rM' 55 = rM 55) (h7 : rM' 56 = rM 56) (h40 : sM' 40 = sM 40 := by rfl) : jQ rC' sM' rM' := by
  refine ⟨by rw [h40]; exact h.1, ?_⟩
  replace h := h.2
  unfold jQt
  rw [h1, h3, h5]
  refine ⟨fun k hk => ?_, h.2.1, h.2.2⟩
  obtain ⟨d, hd⟩ := h.1 k hk
  refine ⟨d, ?_⟩
  unfold jL at hd ⊢
  rw [h1, h5, h6, h7, h2 d hd.1]
  refine ⟨hd.1, hd.2.1, hd.2.2.1, hd.2.2.2.1, fun i hi => ?_⟩
  have := hd.2.2.2.2 i hi
  exact ⟨this.1, this.2.1, by omega⟩
theorem qR_up (h : qR sC rC sM rM) (g i : Nat) (x : Int32) : qR sC (up2 rC g i x) sM (up2 rM g i x) := by
  refine ⟨h.1, fun f hf => ?_⟩
  have e := h.2 f hf
  funext j
  rw [up2_e, up2_e, e]
/-- fields that the invariants between fields don't speak of -/
def jF (g : Nat) : Bool := ! (g == 15 || g == 24 || g == 25 || g == 29 || g == 31 || g == 34 || g == 36 || g == 37 || g == 54 || g == 55 || g == 56 || g == 101 || (110 ≤ g && g ≤ 126))
theorem jZ_eq (h : jZ sM rM) (hs : sM' 26 = sM 26) (hs2 : (sM 39).toInt ≤ (sM' 39).toInt) (hr : ∀ f, f ∈ [15, 24, 25, 29, 31, 34, 36, 37] → rM' f = rM f) : jZ sM' rM' := by
  obtain ⟨a, b, c, d, e⟩ := h
  unfold jZ jP jX jK jW j36
  rw [hs, hr 15 (by decide), hr 24 (by decide), hr 25 (by decide), hr 29 (by decide), hr 31 (by decide), hr 34 (by decide), hr 36 (by decide), hr 37 (by decide)]
  refine ⟨a, b, fun j hj => ?_, fun j hj => ?_, e⟩
  · have := c j hj; omega
  · have := d j hj; omega
theorem jI_up (h : jI sC rC sM rM) (g i : Nat) (x : Int32) (hg : jF g = true) (hx : jV g x) : jI sC (up2 rC g i x) sM (up2 rM g i x) := by
  obtain ⟨a, b, c, d, e⟩ := h
  have n : ∀ f, jF f = false → ¬ f = g := fun f hf q => by rw [q, hg] at hf; exact absurd hf (by decide)
  have u : ∀ (r : Nat → Nat → Int32) f, jF f = false → up2 r g i x f = r f := fun r f hf => up2_nn r i x (n f hf)
  refine ⟨qR_up a g i x, b, jE_up c hx, jZ_eq d rfl (Int.le_refl _) (fun f hf => ?_), jQ_eq e (u _ _ rfl) (fun dd hd => u _ _ ?_) rfl (Int.le_refl _) (u _ _ rfl) (u _ _ rfl) (u _ _ rfl)⟩
  · refine u _ _ ?_
    have : ∀ f, f ∈ [15, 24, 25, 29, 31, 34, 36, 37] → jF f = false := by decide
    exact this f hf
  · have : ∀ dd, dd < 17 → jF (110 + dd) = false := by decide
    exact this dd (by omega)
/-- only the reference's code of the last call has changed -/
theorem jI_0 (h : jI sC rC sM rM) (x : Int32) : jI sC rC (upd sM 0 x) rM := by
  obtain ⟨a, b, c, d, e⟩ := h
  refine ⟨⟨fun f hf => ?_, a.2⟩, b, c, d, e⟩
  have : ∀ f, f ∈ [1, 6, 14, 26, 39, 40, 52, 57, 61, 64] → ¬ f = 0 := by decide
  rw [a.1 f hf]
  exact (if_neg (this f hf)).symm
theorem jI.N (h : jI sC rC sM rM) : jN sM := h.2.1
theorem jI.E (h : jI sC rC sM rM) (f j : Nat) : jV f (rM f j) := h.2.2.1 f j
theorem jI.q (h : jI sC rC sM rM) : qR sC rC sM rM := h.1
theorem jI.P (h : jI sC rC sM rM) : jP sM rM := h.2.2.2.1.1
theorem jI.X (h : jI sC rC sM rM) : jX rM := h.2.2.2.1.2.1
theorem jI.K (h : jI sC rC sM rM) : jK sM rM := h.2.2.2.1.2.2.1
theorem jI.W (h : jI sC rC sM rM) : jW sM rM := h.2.2.2.1.2.2.2.1
theorem jI.Z36 (h : jI sC rC sM rM) : j36 sM rM := h.2.2.2.1.2.2.2.2
theorem jI.Q (h : jI sC rC sM rM) : jQt rC sM rM := h.2.2.2.2.2
theorem jI.b40 (h : jI sC rC sM rM) : 0 ≤ (sM 40).toInt ∧ (sM 40).toInt ≤ 200 := h.2.2.2.2.1
end JI
