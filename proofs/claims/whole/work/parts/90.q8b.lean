/-! the table of the reference -/
def tbT (N : Nat → Nat → Bool) (K i y : Nat) : Int32 := if aM N K i y = true then nI (pcN K y) else -1
theorem pcN_le (K y : Nat) : pcN K y ≤ K := kCn_le _ K
theorem nI_ne1 {a : Nat} (h : a ≤ 5000) : ¬ nI a = -1 := fun e => by
  have h1 := nI_toInt (n := a) (by omega)
  rw [e] at h1
  have h2 : (-1 : Int32).toInt = -1 := by decide
  omega
theorem mo2_67 (r : Nat → Nat → Int32) : ∀ n z, n ≤ 4096 → mo2 r n 67 z = if z < n then (if z = 0 then 0 else -1) else r 67 z
  | 0, z, _ => rfl
  | n + 1, z, hn => by
    unfold mo2
    rw [up2_e, mo2_67 r n z (by omega)]
    by_cases c : z = n
    · subst c
      rw [if_pos ⟨rfl, rfl⟩, if_pos (show z < z + 1 by omega)]
      by_cases q : z = 0
      · rw [if_pos q, if_pos (by rw [q]; decide)]
      · have hne : ¬ nI z = 0 := fun e => by
          have h1 := ix_nI (i := z) (by omega)
          rw [e] at h1
          exact q (h1.symm.trans (by decide))
        rw [if_neg q, if_neg hne]
    · rw [if_neg (fun q => c q.2)]
      by_cases q : z < n
      · rw [if_pos q, if_pos (show z < n + 1 by omega)]
      · rw [if_neg q, if_neg (show ¬ z < n + 1 by omega)]
theorem moC_o (y b : Int32) (k : Nat) (r : Nat → Nat → Int32) {z : Nat} (hz : ¬ z = y.toNatClampNeg) : moC y b k r 67 z = r 67 z := by
  unfold moC
  repeat' split
  all_goals first | rfl | (rw [up2_e, if_neg (fun q => hz q.2)])
theorem moK_o (y b : Int32) (r : Nat → Nat → Int32) {z : Nat} (hz : ¬ z = y.toNatClampNeg) : ∀ k, moK y b r k 67 z = r 67 z
  | 0 => rfl
  | k + 1 => (moC_o y b k _ hz).trans (moK_o y b r hz k)
theorem moK_s {N : Nat → Nat → Bool} {K i Y B : Nat} {r : Nat → Nat → Int32} (hK : K ≤ 12) (hY : Y < 4096) (hB : B < 4096) (hN : ∀ k, k < K → B.testBit k = N i k) (h0 : r 67 Y = tbT N K i Y) (h1 : ∀ k, k < K → Y.testBit k = true → r 67 (Y ^^^ 2 ^ k) = tbT N K i (Y ^^^ 2 ^ k)) :
    ∀ k, k ≤ K → moK (nI Y) (nI B) r k 67 Y = if (aM N K i Y || aX (fun k => N i k && Y.testBit k && aM N K i (Y ^^^ 2 ^ k)) k) = true then nI (pcN K Y) else -1
  | 0, _ => by
    show r 67 Y = _
    rw [h0]
    unfold tbT aX
    rw [Bool.or_false]
  | k + 1, hk => by
    have ih := moK_s hK hY hB hN h0 h1 k (by omega)
    have iY : Int32.toNatClampNeg (nI Y) = Y := ix_nI (by omega)
    unfold moK moC
    rw [n_bit hY (by omega), n_bit hB (by omega), mo_sh k (by omega), n_xor, iY]
    unfold aX
    have hp12 := pcN_le K Y
    by_cases c1 : Y.testBit k = true
    · rw [if_pos c1, if_neg (by decide)]
      by_cases c2 : B.testBit k = true
      · rw [if_pos c2, if_neg (by decide)]
        have lt := xr_lt c1
        have pe := pc_xr c1 (show k < K by omega)
        rw [ix_nI (show Y ^^^ 2 ^ k ≤ 5000 by omega), moK_o (nI Y) (nI B) r (z := Y ^^^ 2 ^ k) (by rw [iY]; omega) k, h1 k (by omega) c1]
        have hNk : N i k = true := by rw [← hN k (by omega)]; exact c2
        by_cases c3 : aM N K i (Y ^^^ 2 ^ k) = true
        · have e3 : tbT N K i (Y ^^^ 2 ^ k) = nI (pcN K (Y ^^^ 2 ^ k)) := if_pos c3
          rw [e3, if_neg (nI_ne1 (by omega)), nI_1, ← pe]
          have f : (aM N K i Y || (aX (fun k => N i k && Y.testBit k && aM N K i (Y ^^^ 2 ^ k)) k || (N i k && Y.testBit k && aM N K i (Y ^^^ 2 ^ k)))) = true := by
            rw [c3, c1, hNk]; simp
          rw [if_pos f]
          by_cases c4 : nI (pcN K Y) ≤ moK (nI Y) (nI B) r k 67 Y
          · rw [if_pos c4]
            rw [ih] at c4 ⊢
            by_cases c5 : (aM N K i Y || aX (fun k => N i k && Y.testBit k && aM N K i (Y ^^^ 2 ^ k)) k) = true
            · rw [if_pos c5]
            · rw [if_neg c5, Int32.le_iff_toInt_le] at c4
              have a1 := nI_toInt (n := pcN K Y) (by omega)
              have a2 : (-1 : Int32).toInt = -1 := by decide
              omega
          · rw [if_neg c4, up2_ss]
        · have e3 : tbT N K i (Y ^^^ 2 ^ k) = -1 := if_neg c3
          have c3' : aM N K i (Y ^^^ 2 ^ k) = false := by simpa using c3
          rw [e3, if_pos rfl, ih, c3']
          simp
      · have hNk : N i k = false := by rw [← hN k (by omega)]; simpa using c2
        rw [if_neg c2, if_pos rfl, ih, hNk]
        simp
    · have c1' : Y.testBit k = false := by simpa using c1
      rw [if_neg c1, if_pos rfl, ih, c1']
      simp
theorem aM_0 (N : Nat → Nat → Bool) (K i : Nat) : aM N K (i + 1) 0 = aM N K i 0 := by
  show (aM N K i 0 || _) = _
  have : aX (fun k => N i k && (0 : Nat).testBit k && aM N K i (0 ^^^ 2 ^ k)) K = false := by
    cases q : aX (fun k => N i k && (0 : Nat).testBit k && aM N K i (0 ^^^ 2 ^ k)) K
    · rfl
    · obtain ⟨k, -, hk⟩ := (aX_ex K).mp q
      simp at hk
  rw [this, Bool.or_false]
theorem moB_s {N : Nat → Nat → Bool} {K i B : Nat} (hK : K ≤ 12) (hB : B < 4096) (hN : ∀ k, k < K → B.testBit k = N i k) : ∀ (Y : Nat) (r : Nat → Nat → Int32), Y < 2 ^ K → (∀ z, z < 2 ^ K → r 67 z = if z ≤ Y then tbT N K i z else tbT N K (i + 1) z) → ∀ z, z < 2 ^ K → moB K (nI B) Y r 67 z = tbT N K (i + 1) z
  | 0, r, _, h, z, hz => by
    show r 67 z = _
    rw [h z hz]
    by_cases c : z ≤ 0
    · have : z = 0 := by omega
      subst this
      rw [if_pos c]
      unfold tbT
      rw [aM_0]
    · rw [if_neg c]
  | Y + 1, r, hY, h, z, hz => by
    have p12 := mo_p12 hK
    have iY : Int32.toNatClampNeg (nI (Y + 1)) = Y + 1 := ix_nI (by omega)
    refine moB_s hK hB hN Y _ (by omega) (fun w hw => ?_) z hz
    by_cases c : w = Y + 1
    · subst c
      rw [if_neg (by omega), moK_s (N := N) (i := i) hK (by omega) hB hN (by rw [h _ hw, if_pos (by omega)]) (fun k hk hb => by
        have := xr_lt hb
        rw [h _ (by omega), if_pos (by omega)]) K (Nat.le_refl _)]
      rfl
    · rw [moK_o _ _ _ (by rw [iY]; exact c), h w hw]
      by_cases q : w ≤ Y
      · rw [if_pos q, if_pos (by omega)]
      · rw [if_neg q, if_neg (by omega)]
theorem moBits_m (c : Int32) (s : Nat → Int32) (r : Nat → Nat → Int32) : ∀ n, n ≤ 12 → moBits c s r n = nI (mbN (fun k => !decide (fCo (nI k) c s r = 0)) n)
  | 0, _ => by show (0 : Int32) = nI 0; decide
  | n + 1, hn => by
    unfold moBits mbN
    rw [moBits_m c s r n (by omega)]
    by_cases q : fCo (nI n) c s r = 0
    · rw [if_pos q, if_neg (by simp [q]), Int32.or_zero]
    · rw [if_neg q, if_pos (by simp [q]), mo_sh n (by omega), n_or]
theorem moO_s {nk : Nat} {s : Nat → Int32} {r r1 : Nat → Nat → Int32} (hK : nk ≤ 12) (h0 : ∀ z, z < 2 ^ nk → r1 67 z = tbT (fun i k => !decide (fCo (nI k) (r1 68 i) s r = 0)) nk 0 z) : ∀ i z, z < 2 ^ nk → moO nk s r r1 i 67 z = tbT (fun i k => !decide (fCo (nI k) (r1 68 i) s r = 0)) nk i z
  | 0, z, hz => h0 z hz
  | i + 1, z, hz => by
    unfold moO
    rw [moBits_m _ _ _ _ hK]
    have p12 := mo_p12 hK
    have pl := mbN_lt (fun k => !decide (fCo (nI k) (r1 68 i) s r = 0)) nk
    have pp := Nat.two_pow_pos nk
    refine moB_s hK (by omega) (fun k hk => ?_) (2 ^ nk - 1) _ (by omega) (fun w hw => ?_) z hz
    · rw [mbN_bit]
      simp [hk]
    · rw [if_pos (by omega)]
      exact moO_s hK h0 i w hw
def zX (N : Nat → Nat → Bool) (K m : Nat) : Nat → Nat
  | 0 => 0
  | n + 1 => if aM N K m n = true then max (zX N K m n) (pcN K n) else zX N K m n
theorem zX_le (N : Nat → Nat → Bool) (K m : Nat) : ∀ n, zX N K m n ≤ K
  | 0 => Nat.zero_le _
  | n + 1 => by
    have := zX_le N K m n
    have := pcN_le K n
    unfold zX
    split <;> omega
theorem moZ_s {N : Nat → Nat → Bool} {K m : Nat} {r : Nat → Nat → Int32} (hK : K ≤ 12) : ∀ n, (∀ z, z < n → r 67 z = tbT N K m z) → moZ r n = nI (zX N K m n)
  | 0, _ => by show (0 : Int32) = nI 0; decide
  | n + 1, h => by
    have l1 := zX_le N K m n
    have l2 := pcN_le K n
    have a1 := nI_toInt (n := zX N K m n) (by omega)
    have a2 := nI_toInt (n := pcN K n) (by omega)
    unfold moZ zX
    rw [moZ_s hK n (fun z hz => h z (by omega)), h n (by omega)]
    unfold tbT
    by_cases c : aM N K m n = true
    · rw [if_pos c, if_pos c]
      by_cases q : nI (pcN K n) ≤ nI (zX N K m n)
      · rw [if_pos q]
        rw [Int32.le_iff_toInt_le] at q
        rw [Nat.max_eq_left (by omega)]
      · rw [if_neg q]
        rw [Int32.le_iff_toInt_le] at q
        rw [Nat.max_eq_right (by omega)]
    · rw [if_neg c, if_neg c, if_pos]
      rw [Int32.le_iff_toInt_le]
      have z1 : (-1 : Int32).toInt = -1 := by decide
      omega
theorem zX_ge {N : Nat → Nat → Bool} {K m y : Nat} (h : aM N K m y = true) : ∀ n, y < n → pcN K y ≤ zX N K m n
  | 0, hy => by omega
  | n + 1, hy => by
    unfold zX
    by_cases c : y = n
    · subst c; rw [if_pos h]; omega
    · have := zX_ge h n (by omega)
      split <;> omega
theorem zX_ex (N : Nat → Nat → Bool) (K m : Nat) : ∀ n, zX N K m n = 0 ∨ ∃ y, y < n ∧ aM N K m y = true ∧ zX N K m n = pcN K y
  | 0 => Or.inl rfl
  | n + 1 => by
    unfold zX
    have up : zX N K m n = 0 ∨ ∃ y, y < n + 1 ∧ aM N K m y = true ∧ zX N K m n = pcN K y := by
      rcases zX_ex N K m n with e | ⟨y, h1, h2, h3⟩
      · exact Or.inl e
      · exact Or.inr ⟨y, by omega, h2, h3⟩
    split
    · rename_i c
      by_cases q : zX N K m n ≤ pcN K n
      · rw [Nat.max_eq_right q]; exact Or.inr ⟨n, by omega, c, rfl⟩
      · rw [Nat.max_eq_left (by omega)]; exact up
    · exact up
theorem zX_R (N : Nat → Nat → Bool) (K m : Nat) : zX N K m (2 ^ K) = kR N K m (fun _ => true) := by
  obtain ⟨y, h1, -, h3, h4⟩ := aM_ex (N := N) (K := K) m (fun _ => true)
  have a := zX_ge h3 (2 ^ K) h1
  rcases zX_ex N K m (2 ^ K) with e | ⟨w, -, w2, w3⟩
  · omega
  · have := aM_le m (fun _ => true) w (fun _ _ => rfl) w2
    omega
