/-! origin -/
section QRO
variable {sC sM : Nat → Int32} {rC rM : Nat → Nat → Int32}
theorem po_v (h : qR sC rC sM rM) (k : Int32) (h1 : ¬ fIs (sM 14) k = 0) (h2 : rM 15 k.toNatClampNeg = 1) (hN : (sM 6).toNatClampNeg ≤ 60)
    (hk : ∀ q, q < (sM 6).toNatClampNeg → kAw q k.toNatClampNeg (rM 47 (Int32.toNatClampNeg (rM 25 k.toNatClampNeg))) rC = agP k rM (nI q)) : koV k sC rC = vOg k sM rM := by
  unfold koV vOg
  rw [if_neg h1, if_pos h2, h.s 6, h.r 25, h.r 47]
  rw [ko_og k.toNatClampNeg _ k rC rM (sM 6).toNatClampNeg 0 (-1) (Or.inl ⟨rfl, rfl⟩) (by omega) (fun q hq => hk q (by omega))]
  rw [Nat.zero_add, ogM_C]
  have hle := ogC_le k rM (sM 6).toNatClampNeg
  by_cases c : ogC k rM (sM 6).toNatClampNeg = 1
  · rw [if_pos c, c, if_pos (by decide)]
  · rw [if_neg c, if_neg]
    intro e
    have a1 := nI_toInt (n := ogC k rM (sM 6).toNatClampNeg) (by omega)
    rw [e] at a1
    have a2 : (1 : Int32).toInt = 1 := by decide
    omega
end QRO
