/-! the law's world: the reference's cells (keys below 70), out (99), the class's (100 and on) -/
theorem mJ_99 {ce0 : Nat → va_E} {ad : Nat → Nat} {cI cZ : ClassId} {s : Nat → Int32} {r : Nat → Nat → Int32} {x : va_E} : va_up (mJ ce0 ad cI cZ s r) 99 x = mJ (va_up ce0 99 x) ad cI cZ s r := by
  funext k
  unfold mJ va_up
  by_cases h : k = 99
  · subst h
    rfl
  · by_cases h2 : k < 70
    · simp only [h, h2, if_true, if_false]
    · simp only [h, h2, if_false]
theorem kJ_mJ {o : Nat → va_E} {ad : Nat → Nat} {eA : Nat} {cI cZ cB cO cR : ClassId} {sC sM : Nat → Int32} {rC rM : Nat → Nat → Int32} : kJ (mJ o ad cI cZ sM rM) ad eA cI cB cO cR sC rC = mJ (kJ o ad eA cI cB cO cR sC rC) ad cI cZ sM rM := by
  funext k
  by_cases h : k < 70
  · have h2 : k < 100 := by omega
    unfold kJ mJ
    simp only [h, h2, if_true]
  · unfold kJ mJ
    simp only [h, if_false]
theorem mF_ad {ad ad' : Nat → Nat} {s : Nat → Int32} (h : ∀ k, mKey k = true → ad' k = ad k) : mF ad' s = mF ad s := by
  unfold mF
  rw [h 3 rfl, h 4 rfl, h 5 rfl, h 6 rfl, h 8 rfl, h 9 rfl, h 10 rfl, h 11 rfl, h 12 rfl, h 13 rfl, h 14 rfl, h 16 rfl, h 17 rfl, h 18 rfl, h 19 rfl, h 20 rfl, h 21 rfl, h 22 rfl, h 23 rfl, h 24 rfl, h 25 rfl, h 26 rfl, h 28 rfl, h 29 rfl, h 30 rfl, h 31 rfl, h 32 rfl, h 33 rfl, h 34 rfl, h 35 rfl, h 36 rfl, h 37 rfl, h 38 rfl, h 39 rfl, h 42 rfl, h 43 rfl, h 44 rfl, h 45 rfl, h 46 rfl, h 47 rfl, h 48 rfl, h 49 rfl, h 50 rfl, h 51 rfl, h 52 rfl, h 55 rfl, h 56 rfl, h 57 rfl, h 59 rfl, h 60 rfl, h 61 rfl, h 66 rfl, h 67 rfl, h 68 rfl, h 69 rfl]
theorem mJ_ad {ce0 : Nat → va_E} {ad ad' : Nat → Nat} {cI cZ : ClassId} {s : Nat → Int32} {r : Nat → Nat → Int32} (h : ∀ k, mKey k = true → ad' k = ad k) : mJ ce0 ad' cI cZ s r = mJ ce0 ad cI cZ s r := by
  funext k
  unfold mJ mC
  rw [mF_ad h]
theorem mJ_ce {ce0 ce1 : Nat → va_E} {ad : Nat → Nat} {cI cZ : ClassId} {s : Nat → Int32} {r : Nat → Nat → Int32} (h : ∀ k, ¬ k < 70 → ce1 k = ce0 k) : mJ ce1 ad cI cZ s r = mJ ce0 ad cI cZ s r := by
  funext k
  unfold mJ
  by_cases e : k < 70
  · rw [if_pos e, if_pos e]
  · rw [if_neg e, if_neg e, h k e]
theorem mJ_lo {ce0 : Nat → va_E} {ad : Nat → Nat} {cI cZ : ClassId} {s : Nat → Int32} {r : Nat → Nat → Int32} {k : Nat} (h : ¬ k < 70) : mJ ce0 ad cI cZ s r k = ce0 k := if_neg h
/-- what lives below 100 in the law's world -/
def lL0 (k : Nat) : Prop := mKey k = true ∨ k = 99
theorem lL0_99 : lL0 99 := Or.inr rfl
theorem up99 {o : Nat → va_E} {x y : va_E} : va_up (va_up o 99 x) 99 y = va_up o 99 y := by
  funext k
  unfold va_up
  by_cases h : k = 99
  · simp only [h, if_true]
  · simp only [h, if_false]
abbrev lE (cJ : ClassId) (f : Nat → Int64) : va_E := .inl (cJ, 1, .inr (.inl f))
/-- all cells of the law -/
def lW (o : Nat → va_E) (ad : Nat → Nat) (eA : Nat) (cI cZ cB cO cR cJ : ClassId) (f : Nat → Int64) (sM : Nat → Int32) (rM : Nat → Nat → Int32) (sC : Nat → Int32) (rC : Nat → Nat → Int32) : Nat → va_E := kJ (mJ (va_up o 99 (lE cJ f)) ad cI cZ sM rM) ad eA cI cB cO cR sC rC
section LWR
variable {o : Nat → va_E} {ad ad' : Nat → Nat} {eA : Nat} {cI cZ cB cO cR cJ : ClassId} {f f' : Nat → Int64} {sM sC sC' : Nat → Int32} {rM rC rC' : Nat → Nat → Int32}
theorem lW_m : lW o ad eA cI cZ cB cO cR cJ f sM rM sC rC = mJ (kJ (va_up o 99 (lE cJ f)) ad eA cI cB cO cR sC rC) ad cI cZ sM rM := kJ_mJ
theorem lW_out : mJ (va_up o 99 (lE cJ f)) ad cI cZ sM rM 99 = .inl (cJ, 1, .inr (.inl f)) := rfl
theorem lW_out' : lW o ad eA cI cZ cB cO cR cJ f sM rM sC rC 99 = .inl (cJ, 1, .inr (.inl f)) := rfl
theorem lW_ad (h : ∀ j, lvA lL0 j → ad' j = ad j) : mJ (va_up o 99 (lE cJ f)) ad' cI cZ sM rM = mJ (va_up o 99 (lE cJ f)) ad cI cZ sM rM := mJ_ad (fun k hk => h k (Or.inl ⟨Nat.lt_of_lt_of_le (mKey_lt hk) (by decide), Or.inl hk⟩))
/-- behind a helper -/
theorem lW_h (h : ∀ j, lvA lL0 j → ad' j = ad j) : kJ (va_up (mJ (va_up o 99 (lE cJ f)) ad cI cZ sM rM) 99 (.inl (cJ, 1, .inr (.inl f')))) ad' eA cI cB cO cR sC' rC' = lW o ad' eA cI cZ cB cO cR cJ f' sM rM sC' rC' := by
  rw [mJ_99, up99]
  exact congrArg (fun z => kJ z ad' eA cI cB cO cR sC' rC') (lW_ad (f := f') h).symm
end LWR
