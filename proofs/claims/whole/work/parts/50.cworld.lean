/-! THE CLASS'S WORLD: keys from 100 on; ints s and arrays r by the reference's numbers where the things are the same, its own from 100 on -/
def gCap (n : Nat) : Nat := if n ≤ 10 then 10 else if n ≤ 15 then 15 else if n ≤ 22 then 22 else if n ≤ 33 then 33 else if n ≤ 49 then 49 else 73
def gKey (q n : Nat) : Nat := 500 + 100 * q + gCap n
/-- where a list of n has its array -/
def kEd (ad : Nat → Nat) (eA q n : Nat) : Nat := if n = 0 then eA else ad (gKey q n)
/-- the references of a list's array -/
def kRf (ad : Nat → Nat) (b n : Nat) : Nat → Option Nat := fun i => if i < n then some (ad (b + i)) else none
def kHv (r : Nat → Nat → Int32) (i : Nat) : va_E := .inr (4, [.int (r 7 i), .int (r 8 i), .int (r 10 i), .int (r 11 i), .int (r 9 i), .int (r 12 i), .int (r 13 i)])
def kSw (r : Nat → Nat → Int32) (i : Nat) : va_E := .inr (7, [.int (r 16 i), .int (r 17 i), .int (r 18 i), .int (r 19 i), .int (r 20 i), .int (r 21 i), .int (r 22 i), .int (r 15 i), .int (r 23 i), .int (r 25 i), .int (r 24 i)])
def kKp (r : Nat → Nat → Int32) (i : Nat) : va_E := .inr (5, [.int (r 27 i), .int (r 28 i), .int (r 30 i), .int (r 31 i), .int (r 32 i), .int (r 33 i), .int (r 29 i), .int (r 34 i), .int (r 36 i), .int (r 35 i), .int (r 37 i), .int (r 38 i)])
def kCa (r : Nat → Nat → Int32) (i : Nat) : va_E := .inr (2, [.int (r 42 i), .int (r 43 i), .int (r 44 i), .int (r 41 i), .int (r 45 i), .int (r 46 i), .int (r 47 i), .int (r 48 i), .int (r 49 i), .int (r 50 i), .int (r 51 i)])
def kFx (ad : Nat → Nat) (eA : Nat) (cI cB cR : ClassId) (s : Nat → Int32) (r : Nat → Nat → Int32) (k : Nat) : va_E := if k = 100 then .inr (10, [.ref (ad 101), .ref (ad 102), .ref (ad 103), .ref (ad 104), .ref (ad 105), .ref (ad 106), .ref (ad 107), .ref (ad 108), .ref (ad 109), .ref (ad 110), .ref (ad 111), .int (s 40), .int (s 1), .int (s 64)]) else if k = 101 then .inr (8, [.ref (ad 112), .int (s 61), .int (s 101), .int (s 102), .int (s 103)]) else if k = 102 then .inr (3, [.int (s 104), .int (s 105), .int (s 106), .int (s 107), .int (s 108), .int (s 109)]) else if k = 103 then .inr (6, [.ref (ad 113), .ref (ad 114), .ref (ad 115), .ref (ad 116)]) else if k = 104 then .inr (1, [.ref (ad 117), .ref (ad 118), .int (s 57)]) else if k = 105 then .inr (0, [.int (s 121), .ref (kEd ad eA 0 (s 6).toNatClampNeg), .int (s 6)]) else if k = 106 then .inr (0, [.int (s 122), .ref (kEd ad eA 1 (s 14).toNatClampNeg), .int (s 14)]) else if k = 107 then .inr (0, [.int (s 123), .ref (kEd ad eA 2 (s 26).toNatClampNeg), .int (s 26)]) else if k = 108 then .inr (0, [.int (s 124), .ref (kEd ad eA 3 (s 39).toNatClampNeg), .int (s 39)]) else if k = 109 then .inl (cI, 8, .inl (r 100)) else if k = 110 then .inr (9, [.ref (ad 119), .ref (ad 121), .int (s 52)]) else if k = 111 then .inr (9, [.ref (ad 120), .ref (ad 122), .int (s 111)]) else if k = 112 then .inl (cB, 400, .inl (fun i => (r 60 i).toInt8.toInt32)) else if k = 113 then .inl (cI, 31, .inl (r 2)) else if k = 114 then .inl (cI, 31, .inl (r 3)) else if k = 115 then .inl (cI, 31, .inl (r 4)) else if k = 116 then .inl (cI, 31, .inl (r 5)) else if k = 117 then .inl (cI, 12, .inl (r 58)) else if k = 118 then .inl (cI, 12, .inl (r 59)) else if k = 119 then .inl (cR, 17, .inr (.inr (.inr (.inr (kRf ad 130 17))))) else if k = 120 then .inl (cR, 17, .inr (.inr (.inr (.inr (kRf ad 150 17))))) else if k = 121 then .inl (cI, 17, .inl (r 101)) else if k = 122 then .inl (cI, 17, .inl (r 102)) else .inr (0, [])
def kRw (cI : ClassId) (r : Nat → Nat → Int32) (k : Nat) : va_E := .inl (cI, 12, .inl (r (k - 20)))
def kLa (ad : Nat → Nat) (cO : ClassId) (s : Nat → Int32) (k : Nat) : va_E := if k < 600 then .inl (cO, k - 500, .inr (.inr (.inr (.inr (kRf ad 1000 (s 6).toNatClampNeg))))) else if k < 700 then .inl (cO, k - 600, .inr (.inr (.inr (.inr (kRf ad 2000 (s 14).toNatClampNeg))))) else if k < 800 then .inl (cO, k - 700, .inr (.inr (.inr (.inr (kRf ad 3000 (s 26).toNatClampNeg))))) else .inl (cO, k - 800, .inr (.inr (.inr (.inr (kRf ad 4000 (s 39).toNatClampNeg)))))
def kJ (ce0 : Nat → va_E) (ad : Nat → Nat) (eA : Nat) (cI cB cO cR : ClassId) (s : Nat → Int32) (r : Nat → Nat → Int32) : Nat → va_E := fun k => if k < 100 then ce0 k else if k < 130 then kFx ad eA cI cB cR s r k else if k < 200 then kRw cI r k else if k < 1000 then kLa ad cO s k else if k < 2000 then kHv r (k - 1000) else if k < 3000 then kSw r (k - 2000) else if k < 4000 then kKp r (k - 3000) else if k < 5000 then kCa r (k - 4000) else ce0 k
section KJ
variable {ce0 : Nat → va_E} {ad : Nat → Nat} {eA : Nat} {cI cB cO cR : ClassId} {s s' : Nat → Int32} {r r' : Nat → Nat → Int32}
theorem kJ_hv {i : Nat} (hi : i < 1000) : kJ ce0 ad eA cI cB cO cR s r (1000 + i) = kHv r i := by
  unfold kJ
  rw [if_neg (by omega), if_neg (by omega), if_neg (by omega), if_neg (by omega), if_pos (by omega), Nat.add_sub_cancel_left]
theorem kJ_sw {i : Nat} (hi : i < 1000) : kJ ce0 ad eA cI cB cO cR s r (2000 + i) = kSw r i := by
  unfold kJ
  rw [if_neg (by omega), if_neg (by omega), if_neg (by omega), if_neg (by omega), if_neg (by omega), if_pos (by omega), Nat.add_sub_cancel_left]
theorem kJ_kp {i : Nat} (hi : i < 1000) : kJ ce0 ad eA cI cB cO cR s r (3000 + i) = kKp r i := by
  unfold kJ
  rw [if_neg (by omega), if_neg (by omega), if_neg (by omega), if_neg (by omega), if_neg (by omega), if_neg (by omega), if_pos (by omega), Nat.add_sub_cancel_left]
theorem kJ_ca {i : Nat} (hi : i < 1000) : kJ ce0 ad eA cI cB cO cR s r (4000 + i) = kCa r i := by
  unfold kJ
  rw [if_neg (by omega), if_neg (by omega), if_neg (by omega), if_neg (by omega), if_neg (by omega), if_neg (by omega), if_neg (by omega), if_pos (by omega), Nat.add_sub_cancel_left]
theorem kJ_rw {i : Nat} (hi : i < 70) : kJ ce0 ad eA cI cB cO cR s r (130 + i) = .inl (cI, 12, .inl (r (110 + i))) := by
  unfold kJ
  rw [if_neg (by omega), if_neg (by omega), if_pos (by omega)]
  show kRw cI r (130 + i) = _
  unfold kRw
  rw [show 130 + i - 20 = 110 + i by omega]
theorem kJ_up {K : Nat} {E : va_E} (h0 : kJ ce0 ad eA cI cB cO cR s' r' K = E) (h : ∀ k, ¬ k = K → kJ ce0 ad eA cI cB cO cR s' r' k = kJ ce0 ad eA cI cB cO cR s r k) : va_up (kJ ce0 ad eA cI cB cO cR s r) K E = kJ ce0 ad eA cI cB cO cR s' r' := by
  funext k
  by_cases e : k = K
  · subst e; rw [va_up_self]; exact h0.symm
  · rw [va_up_ne _ _ e]; exact (h k e).symm
theorem kJ_seg (k : Nat) (hF : kFx ad eA cI cB cR s' r' k = kFx ad eA cI cB cR s r k) (hR : 130 ≤ k → r' (k - 20) = r (k - 20)) (hA : kLa ad cO s' k = kLa ad cO s k) (hH : ∀ j, k = 1000 + j → kHv r' j = kHv r j) (hS : ∀ j, k = 2000 + j → kSw r' j = kSw r j) (hK : ∀ j, k = 3000 + j → kKp r' j = kKp r j) (hC : ∀ j, k = 4000 + j → kCa r' j = kCa r j) : kJ ce0 ad eA cI cB cO cR s' r' k = kJ ce0 ad eA cI cB cO cR s r k := by
  unfold kJ
  by_cases c1 : k < 100
  · rw [if_pos c1, if_pos c1]
  rw [if_neg c1, if_neg c1]
  by_cases c2 : k < 130
  · rw [if_pos c2, if_pos c2]; exact hF
  rw [if_neg c2, if_neg c2]
  by_cases c3 : k < 200
  · rw [if_pos c3, if_pos c3]; unfold kRw; rw [hR (by omega)]
  rw [if_neg c3, if_neg c3]
  by_cases c4 : k < 1000
  · rw [if_pos c4, if_pos c4]; exact hA
  rw [if_neg c4, if_neg c4]
  by_cases c5 : k < 2000
  · rw [if_pos c5, if_pos c5]; exact hH _ (by omega)
  rw [if_neg c5, if_neg c5]
  by_cases c6 : k < 3000
  · rw [if_pos c6, if_pos c6]; exact hS _ (by omega)
  rw [if_neg c6, if_neg c6]
  by_cases c7 : k < 4000
  · rw [if_pos c7, if_pos c7]; exact hK _ (by omega)
  rw [if_neg c7, if_neg c7]
  by_cases c8 : k < 5000
  · rw [if_pos c8, if_pos c8]; exact hC _ (by omega)
  rw [if_neg c8, if_neg c8]
theorem kw_hv_x {i : Nat} (hi : i < 1000) (v : Int32) : va_up (kJ ce0 ad eA cI cB cO cR s r) (1000 + i) (.inr (4, ([.int (r 7 i), .int (r 8 i), .int (r 10 i), .int (r 11 i), .int (r 9 i), .int (r 12 i), .int (r 13 i)] : List Value).set 0 (.int v))) = kJ ce0 ad eA cI cB cO cR s (up2 r 7 i v) := by
  refine kJ_up ?_ (fun k hk => kJ_seg k rfl (fun h => up2_nn _ _ _ (by omega)) rfl (fun j e => by { have z : ¬ j = i := (by omega); simp [kHv, up2, va_up, upd, z] }) (fun _ _ => rfl) (fun _ _ => rfl) (fun _ _ => rfl))
  rw [kJ_hv hi]
  simp [kHv, up2, va_up, upd]
theorem kw_hv_y {i : Nat} (hi : i < 1000) (v : Int32) : va_up (kJ ce0 ad eA cI cB cO cR s r) (1000 + i) (.inr (4, ([.int (r 7 i), .int (r 8 i), .int (r 10 i), .int (r 11 i), .int (r 9 i), .int (r 12 i), .int (r 13 i)] : List Value).set 1 (.int v))) = kJ ce0 ad eA cI cB cO cR s (up2 r 8 i v) := by
  refine kJ_up ?_ (fun k hk => kJ_seg k rfl (fun h => up2_nn _ _ _ (by omega)) rfl (fun j e => by { have z : ¬ j = i := (by omega); simp [kHv, up2, va_up, upd, z] }) (fun _ _ => rfl) (fun _ _ => rfl) (fun _ _ => rfl))
  rw [kJ_hv hi]
  simp [kHv, up2, va_up, upd]
theorem kw_hv_room {i : Nat} (hi : i < 1000) (v : Int32) : va_up (kJ ce0 ad eA cI cB cO cR s r) (1000 + i) (.inr (4, ([.int (r 7 i), .int (r 8 i), .int (r 10 i), .int (r 11 i), .int (r 9 i), .int (r 12 i), .int (r 13 i)] : List Value).set 2 (.int v))) = kJ ce0 ad eA cI cB cO cR s (up2 r 10 i v) := by
  refine kJ_up ?_ (fun k hk => kJ_seg k rfl (fun h => up2_nn _ _ _ (by omega)) rfl (fun j e => by { have z : ¬ j = i := (by omega); simp [kHv, up2, va_up, upd, z] }) (fun _ _ => rfl) (fun _ _ => rfl) (fun _ _ => rfl))
  rw [kJ_hv hi]
  simp [kHv, up2, va_up, upd]
theorem kw_hv_mark {i : Nat} (hi : i < 1000) (v : Int32) : va_up (kJ ce0 ad eA cI cB cO cR s r) (1000 + i) (.inr (4, ([.int (r 7 i), .int (r 8 i), .int (r 10 i), .int (r 11 i), .int (r 9 i), .int (r 12 i), .int (r 13 i)] : List Value).set 3 (.int v))) = kJ ce0 ad eA cI cB cO cR s (up2 r 11 i v) := by
  refine kJ_up ?_ (fun k hk => kJ_seg k rfl (fun h => up2_nn _ _ _ (by omega)) rfl (fun j e => by { have z : ¬ j = i := (by omega); simp [kHv, up2, va_up, upd, z] }) (fun _ _ => rfl) (fun _ _ => rfl) (fun _ _ => rfl))
  rw [kJ_hv hi]
  simp [kHv, up2, va_up, upd]
theorem kw_hv_bees {i : Nat} (hi : i < 1000) (v : Int32) : va_up (kJ ce0 ad eA cI cB cO cR s r) (1000 + i) (.inr (4, ([.int (r 7 i), .int (r 8 i), .int (r 10 i), .int (r 11 i), .int (r 9 i), .int (r 12 i), .int (r 13 i)] : List Value).set 4 (.int v))) = kJ ce0 ad eA cI cB cO cR s (up2 r 9 i v) := by
  refine kJ_up ?_ (fun k hk => kJ_seg k rfl (fun h => up2_nn _ _ _ (by omega)) rfl (fun j e => by { have z : ¬ j = i := (by omega); simp [kHv, up2, va_up, upd, z] }) (fun _ _ => rfl) (fun _ _ => rfl) (fun _ _ => rfl))
  rw [kJ_hv hi]
  simp [kHv, up2, va_up, upd]
theorem kw_hv_warm {i : Nat} (hi : i < 1000) (v : Int32) : va_up (kJ ce0 ad eA cI cB cO cR s r) (1000 + i) (.inr (4, ([.int (r 7 i), .int (r 8 i), .int (r 10 i), .int (r 11 i), .int (r 9 i), .int (r 12 i), .int (r 13 i)] : List Value).set 5 (.int v))) = kJ ce0 ad eA cI cB cO cR s (up2 r 12 i v) := by
  refine kJ_up ?_ (fun k hk => kJ_seg k rfl (fun h => up2_nn _ _ _ (by omega)) rfl (fun j e => by { have z : ¬ j = i := (by omega); simp [kHv, up2, va_up, upd, z] }) (fun _ _ => rfl) (fun _ _ => rfl) (fun _ _ => rfl))
  rw [kJ_hv hi]
  simp [kHv, up2, va_up, upd]
theorem kw_hv_swarmedLast {i : Nat} (hi : i < 1000) (v : Int32) : va_up (kJ ce0 ad eA cI cB cO cR s r) (1000 + i) (.inr (4, ([.int (r 7 i), .int (r 8 i), .int (r 10 i), .int (r 11 i), .int (r 9 i), .int (r 12 i), .int (r 13 i)] : List Value).set 6 (.int v))) = kJ ce0 ad eA cI cB cO cR s (up2 r 13 i v) := by
  refine kJ_up ?_ (fun k hk => kJ_seg k rfl (fun h => up2_nn _ _ _ (by omega)) rfl (fun j e => by { have z : ¬ j = i := (by omega); simp [kHv, up2, va_up, upd, z] }) (fun _ _ => rfl) (fun _ _ => rfl) (fun _ _ => rfl))
  rw [kJ_hv hi]
  simp [kHv, up2, va_up, upd]
theorem kw_sw_hive {i : Nat} (hi : i < 1000) (v : Int32) : va_up (kJ ce0 ad eA cI cB cO cR s r) (2000 + i) (.inr (7, ([.int (r 16 i), .int (r 17 i), .int (r 18 i), .int (r 19 i), .int (r 20 i), .int (r 21 i), .int (r 22 i), .int (r 15 i), .int (r 23 i), .int (r 25 i), .int (r 24 i)] : List Value).set 0 (.int v))) = kJ ce0 ad eA cI cB cO cR s (up2 r 16 i v) := by
  refine kJ_up ?_ (fun k hk => kJ_seg k rfl (fun h => up2_nn _ _ _ (by omega)) rfl (fun _ _ => rfl) (fun j e => by { have z : ¬ j = i := (by omega); simp [kSw, up2, va_up, upd, z] }) (fun _ _ => rfl) (fun _ _ => rfl))
  rw [kJ_sw hi]
  simp [kSw, up2, va_up, upd]
theorem kw_sw_bees {i : Nat} (hi : i < 1000) (v : Int32) : va_up (kJ ce0 ad eA cI cB cO cR s r) (2000 + i) (.inr (7, ([.int (r 16 i), .int (r 17 i), .int (r 18 i), .int (r 19 i), .int (r 20 i), .int (r 21 i), .int (r 22 i), .int (r 15 i), .int (r 23 i), .int (r 25 i), .int (r 24 i)] : List Value).set 1 (.int v))) = kJ ce0 ad eA cI cB cO cR s (up2 r 17 i v) := by
  refine kJ_up ?_ (fun k hk => kJ_seg k rfl (fun h => up2_nn _ _ _ (by omega)) rfl (fun _ _ => rfl) (fun j e => by { have z : ¬ j = i := (by omega); simp [kSw, up2, va_up, upd, z] }) (fun _ _ => rfl) (fun _ _ => rfl))
  rw [kJ_sw hi]
  simp [kSw, up2, va_up, upd]
theorem kw_sw_x {i : Nat} (hi : i < 1000) (v : Int32) : va_up (kJ ce0 ad eA cI cB cO cR s r) (2000 + i) (.inr (7, ([.int (r 16 i), .int (r 17 i), .int (r 18 i), .int (r 19 i), .int (r 20 i), .int (r 21 i), .int (r 22 i), .int (r 15 i), .int (r 23 i), .int (r 25 i), .int (r 24 i)] : List Value).set 2 (.int v))) = kJ ce0 ad eA cI cB cO cR s (up2 r 18 i v) := by
  refine kJ_up ?_ (fun k hk => kJ_seg k rfl (fun h => up2_nn _ _ _ (by omega)) rfl (fun _ _ => rfl) (fun j e => by { have z : ¬ j = i := (by omega); simp [kSw, up2, va_up, upd, z] }) (fun _ _ => rfl) (fun _ _ => rfl))
  rw [kJ_sw hi]
  simp [kSw, up2, va_up, upd]
theorem kw_sw_y {i : Nat} (hi : i < 1000) (v : Int32) : va_up (kJ ce0 ad eA cI cB cO cR s r) (2000 + i) (.inr (7, ([.int (r 16 i), .int (r 17 i), .int (r 18 i), .int (r 19 i), .int (r 20 i), .int (r 21 i), .int (r 22 i), .int (r 15 i), .int (r 23 i), .int (r 25 i), .int (r 24 i)] : List Value).set 3 (.int v))) = kJ ce0 ad eA cI cB cO cR s (up2 r 19 i v) := by
  refine kJ_up ?_ (fun k hk => kJ_seg k rfl (fun h => up2_nn _ _ _ (by omega)) rfl (fun _ _ => rfl) (fun j e => by { have z : ¬ j = i := (by omega); simp [kSw, up2, va_up, upd, z] }) (fun _ _ => rfl) (fun _ _ => rfl))
  rw [kJ_sw hi]
  simp [kSw, up2, va_up, upd]
theorem kw_sw_height {i : Nat} (hi : i < 1000) (v : Int32) : va_up (kJ ce0 ad eA cI cB cO cR s r) (2000 + i) (.inr (7, ([.int (r 16 i), .int (r 17 i), .int (r 18 i), .int (r 19 i), .int (r 20 i), .int (r 21 i), .int (r 22 i), .int (r 15 i), .int (r 23 i), .int (r 25 i), .int (r 24 i)] : List Value).set 4 (.int v))) = kJ ce0 ad eA cI cB cO cR s (up2 r 20 i v) := by
  refine kJ_up ?_ (fun k hk => kJ_seg k rfl (fun h => up2_nn _ _ _ (by omega)) rfl (fun _ _ => rfl) (fun j e => by { have z : ¬ j = i := (by omega); simp [kSw, up2, va_up, upd, z] }) (fun _ _ => rfl) (fun _ _ => rfl))
  rw [kJ_sw hi]
  simp [kSw, up2, va_up, upd]
theorem kw_sw_leftAt {i : Nat} (hi : i < 1000) (v : Int32) : va_up (kJ ce0 ad eA cI cB cO cR s r) (2000 + i) (.inr (7, ([.int (r 16 i), .int (r 17 i), .int (r 18 i), .int (r 19 i), .int (r 20 i), .int (r 21 i), .int (r 22 i), .int (r 15 i), .int (r 23 i), .int (r 25 i), .int (r 24 i)] : List Value).set 5 (.int v))) = kJ ce0 ad eA cI cB cO cR s (up2 r 21 i v) := by
  refine kJ_up ?_ (fun k hk => kJ_seg k rfl (fun h => up2_nn _ _ _ (by omega)) rfl (fun _ _ => rfl) (fun j e => by { have z : ¬ j = i := (by omega); simp [kSw, up2, va_up, upd, z] }) (fun _ _ => rfl) (fun _ _ => rfl))
  rw [kJ_sw hi]
  simp [kSw, up2, va_up, upd]
theorem kw_sw_patience {i : Nat} (hi : i < 1000) (v : Int32) : va_up (kJ ce0 ad eA cI cB cO cR s r) (2000 + i) (.inr (7, ([.int (r 16 i), .int (r 17 i), .int (r 18 i), .int (r 19 i), .int (r 20 i), .int (r 21 i), .int (r 22 i), .int (r 15 i), .int (r 23 i), .int (r 25 i), .int (r 24 i)] : List Value).set 6 (.int v))) = kJ ce0 ad eA cI cB cO cR s (up2 r 22 i v) := by
  refine kJ_up ?_ (fun k hk => kJ_seg k rfl (fun h => up2_nn _ _ _ (by omega)) rfl (fun _ _ => rfl) (fun j e => by { have z : ¬ j = i := (by omega); simp [kSw, up2, va_up, upd, z] }) (fun _ _ => rfl) (fun _ _ => rfl))
  rw [kJ_sw hi]
  simp [kSw, up2, va_up, upd]
theorem kw_sw_state {i : Nat} (hi : i < 1000) (v : Int32) : va_up (kJ ce0 ad eA cI cB cO cR s r) (2000 + i) (.inr (7, ([.int (r 16 i), .int (r 17 i), .int (r 18 i), .int (r 19 i), .int (r 20 i), .int (r 21 i), .int (r 22 i), .int (r 15 i), .int (r 23 i), .int (r 25 i), .int (r 24 i)] : List Value).set 7 (.int v))) = kJ ce0 ad eA cI cB cO cR s (up2 r 15 i v) := by
  refine kJ_up ?_ (fun k hk => kJ_seg k rfl (fun h => up2_nn _ _ _ (by omega)) rfl (fun _ _ => rfl) (fun j e => by { have z : ¬ j = i := (by omega); simp [kSw, up2, va_up, upd, z] }) (fun _ _ => rfl) (fun _ _ => rfl))
  rw [kJ_sw hi]
  simp [kSw, up2, va_up, upd]
theorem kw_sw_keeper {i : Nat} (hi : i < 1000) (v : Int32) : va_up (kJ ce0 ad eA cI cB cO cR s r) (2000 + i) (.inr (7, ([.int (r 16 i), .int (r 17 i), .int (r 18 i), .int (r 19 i), .int (r 20 i), .int (r 21 i), .int (r 22 i), .int (r 15 i), .int (r 23 i), .int (r 25 i), .int (r 24 i)] : List Value).set 8 (.int v))) = kJ ce0 ad eA cI cB cO cR s (up2 r 23 i v) := by
  refine kJ_up ?_ (fun k hk => kJ_seg k rfl (fun h => up2_nn _ _ _ (by omega)) rfl (fun _ _ => rfl) (fun j e => by { have z : ¬ j = i := (by omega); simp [kSw, up2, va_up, upd, z] }) (fun _ _ => rfl) (fun _ _ => rfl))
  rw [kJ_sw hi]
  simp [kSw, up2, va_up, upd]
theorem kw_sw_aCase {i : Nat} (hi : i < 1000) (v : Int32) : va_up (kJ ce0 ad eA cI cB cO cR s r) (2000 + i) (.inr (7, ([.int (r 16 i), .int (r 17 i), .int (r 18 i), .int (r 19 i), .int (r 20 i), .int (r 21 i), .int (r 22 i), .int (r 15 i), .int (r 23 i), .int (r 25 i), .int (r 24 i)] : List Value).set 9 (.int v))) = kJ ce0 ad eA cI cB cO cR s (up2 r 25 i v) := by
  refine kJ_up ?_ (fun k hk => kJ_seg k rfl (fun h => up2_nn _ _ _ (by omega)) rfl (fun _ _ => rfl) (fun j e => by { have z : ¬ j = i := (by omega); simp [kSw, up2, va_up, upd, z] }) (fun _ _ => rfl) (fun _ _ => rfl))
  rw [kJ_sw hi]
  simp [kSw, up2, va_up, upd]
theorem kw_sw_ended {i : Nat} (hi : i < 1000) (v : Int32) : va_up (kJ ce0 ad eA cI cB cO cR s r) (2000 + i) (.inr (7, ([.int (r 16 i), .int (r 17 i), .int (r 18 i), .int (r 19 i), .int (r 20 i), .int (r 21 i), .int (r 22 i), .int (r 15 i), .int (r 23 i), .int (r 25 i), .int (r 24 i)] : List Value).set 10 (.int v))) = kJ ce0 ad eA cI cB cO cR s (up2 r 24 i v) := by
  refine kJ_up ?_ (fun k hk => kJ_seg k rfl (fun h => up2_nn _ _ _ (by omega)) rfl (fun _ _ => rfl) (fun j e => by { have z : ¬ j = i := (by omega); simp [kSw, up2, va_up, upd, z] }) (fun _ _ => rfl) (fun _ _ => rfl))
  rw [kJ_sw hi]
  simp [kSw, up2, va_up, upd]
theorem kw_kp_x {i : Nat} (hi : i < 1000) (v : Int32) : va_up (kJ ce0 ad eA cI cB cO cR s r) (3000 + i) (.inr (5, ([.int (r 27 i), .int (r 28 i), .int (r 30 i), .int (r 31 i), .int (r 32 i), .int (r 33 i), .int (r 29 i), .int (r 34 i), .int (r 36 i), .int (r 35 i), .int (r 37 i), .int (r 38 i)] : List Value).set 0 (.int v))) = kJ ce0 ad eA cI cB cO cR s (up2 r 27 i v) := by
  refine kJ_up ?_ (fun k hk => kJ_seg k rfl (fun h => up2_nn _ _ _ (by omega)) rfl (fun _ _ => rfl) (fun _ _ => rfl) (fun j e => by { have z : ¬ j = i := (by omega); simp [kKp, up2, va_up, upd, z] }) (fun _ _ => rfl))
  rw [kJ_kp hi]
  simp [kKp, up2, va_up, upd]
theorem kw_kp_y {i : Nat} (hi : i < 1000) (v : Int32) : va_up (kJ ce0 ad eA cI cB cO cR s r) (3000 + i) (.inr (5, ([.int (r 27 i), .int (r 28 i), .int (r 30 i), .int (r 31 i), .int (r 32 i), .int (r 33 i), .int (r 29 i), .int (r 34 i), .int (r 36 i), .int (r 35 i), .int (r 37 i), .int (r 38 i)] : List Value).set 1 (.int v))) = kJ ce0 ad eA cI cB cO cR s (up2 r 28 i v) := by
  refine kJ_up ?_ (fun k hk => kJ_seg k rfl (fun h => up2_nn _ _ _ (by omega)) rfl (fun _ _ => rfl) (fun _ _ => rfl) (fun j e => by { have z : ¬ j = i := (by omega); simp [kKp, up2, va_up, upd, z] }) (fun _ _ => rfl))
  rw [kJ_kp hi]
  simp [kKp, up2, va_up, upd]
theorem kw_kp_ladder {i : Nat} (hi : i < 1000) (v : Int32) : va_up (kJ ce0 ad eA cI cB cO cR s r) (3000 + i) (.inr (5, ([.int (r 27 i), .int (r 28 i), .int (r 30 i), .int (r 31 i), .int (r 32 i), .int (r 33 i), .int (r 29 i), .int (r 34 i), .int (r 36 i), .int (r 35 i), .int (r 37 i), .int (r 38 i)] : List Value).set 2 (.int v))) = kJ ce0 ad eA cI cB cO cR s (up2 r 30 i v) := by
  refine kJ_up ?_ (fun k hk => kJ_seg k rfl (fun h => up2_nn _ _ _ (by omega)) rfl (fun _ _ => rfl) (fun _ _ => rfl) (fun j e => by { have z : ¬ j = i := (by omega); simp [kKp, up2, va_up, upd, z] }) (fun _ _ => rfl))
  rw [kJ_kp hi]
  simp [kKp, up2, va_up, upd]
theorem kw_kp_pace {i : Nat} (hi : i < 1000) (v : Int32) : va_up (kJ ce0 ad eA cI cB cO cR s r) (3000 + i) (.inr (5, ([.int (r 27 i), .int (r 28 i), .int (r 30 i), .int (r 31 i), .int (r 32 i), .int (r 33 i), .int (r 29 i), .int (r 34 i), .int (r 36 i), .int (r 35 i), .int (r 37 i), .int (r 38 i)] : List Value).set 3 (.int v))) = kJ ce0 ad eA cI cB cO cR s (up2 r 31 i v) := by
  refine kJ_up ?_ (fun k hk => kJ_seg k rfl (fun h => up2_nn _ _ _ (by omega)) rfl (fun _ _ => rfl) (fun _ _ => rfl) (fun j e => by { have z : ¬ j = i := (by omega); simp [kKp, up2, va_up, upd, z] }) (fun _ _ => rfl))
  rw [kJ_kp hi]
  simp [kKp, up2, va_up, upd]
theorem kw_kp_from {i : Nat} (hi : i < 1000) (v : Int32) : va_up (kJ ce0 ad eA cI cB cO cR s r) (3000 + i) (.inr (5, ([.int (r 27 i), .int (r 28 i), .int (r 30 i), .int (r 31 i), .int (r 32 i), .int (r 33 i), .int (r 29 i), .int (r 34 i), .int (r 36 i), .int (r 35 i), .int (r 37 i), .int (r 38 i)] : List Value).set 4 (.int v))) = kJ ce0 ad eA cI cB cO cR s (up2 r 32 i v) := by
  refine kJ_up ?_ (fun k hk => kJ_seg k rfl (fun h => up2_nn _ _ _ (by omega)) rfl (fun _ _ => rfl) (fun _ _ => rfl) (fun j e => by { have z : ¬ j = i := (by omega); simp [kKp, up2, va_up, upd, z] }) (fun _ _ => rfl))
  rw [kJ_kp hi]
  simp [kKp, up2, va_up, upd]
theorem kw_kp_to {i : Nat} (hi : i < 1000) (v : Int32) : va_up (kJ ce0 ad eA cI cB cO cR s r) (3000 + i) (.inr (5, ([.int (r 27 i), .int (r 28 i), .int (r 30 i), .int (r 31 i), .int (r 32 i), .int (r 33 i), .int (r 29 i), .int (r 34 i), .int (r 36 i), .int (r 35 i), .int (r 37 i), .int (r 38 i)] : List Value).set 5 (.int v))) = kJ ce0 ad eA cI cB cO cR s (up2 r 33 i v) := by
  refine kJ_up ?_ (fun k hk => kJ_seg k rfl (fun h => up2_nn _ _ _ (by omega)) rfl (fun _ _ => rfl) (fun _ _ => rfl) (fun j e => by { have z : ¬ j = i := (by omega); simp [kKp, up2, va_up, upd, z] }) (fun _ _ => rfl))
  rw [kJ_kp hi]
  simp [kKp, up2, va_up, upd]
theorem kw_kp_boxes {i : Nat} (hi : i < 1000) (v : Int32) : va_up (kJ ce0 ad eA cI cB cO cR s r) (3000 + i) (.inr (5, ([.int (r 27 i), .int (r 28 i), .int (r 30 i), .int (r 31 i), .int (r 32 i), .int (r 33 i), .int (r 29 i), .int (r 34 i), .int (r 36 i), .int (r 35 i), .int (r 37 i), .int (r 38 i)] : List Value).set 6 (.int v))) = kJ ce0 ad eA cI cB cO cR s (up2 r 29 i v) := by
  refine kJ_up ?_ (fun k hk => kJ_seg k rfl (fun h => up2_nn _ _ _ (by omega)) rfl (fun _ _ => rfl) (fun _ _ => rfl) (fun j e => by { have z : ¬ j = i := (by omega); simp [kKp, up2, va_up, upd, z] }) (fun _ _ => rfl))
  rw [kJ_kp hi]
  simp [kKp, up2, va_up, upd]
theorem kw_kp_state {i : Nat} (hi : i < 1000) (v : Int32) : va_up (kJ ce0 ad eA cI cB cO cR s r) (3000 + i) (.inr (5, ([.int (r 27 i), .int (r 28 i), .int (r 30 i), .int (r 31 i), .int (r 32 i), .int (r 33 i), .int (r 29 i), .int (r 34 i), .int (r 36 i), .int (r 35 i), .int (r 37 i), .int (r 38 i)] : List Value).set 7 (.int v))) = kJ ce0 ad eA cI cB cO cR s (up2 r 34 i v) := by
  refine kJ_up ?_ (fun k hk => kJ_seg k rfl (fun h => up2_nn _ _ _ (by omega)) rfl (fun _ _ => rfl) (fun _ _ => rfl) (fun j e => by { have z : ¬ j = i := (by omega); simp [kKp, up2, va_up, upd, z] }) (fun _ _ => rfl))
  rw [kJ_kp hi]
  simp [kKp, up2, va_up, upd]
theorem kw_kp_hoursOneWay {i : Nat} (hi : i < 1000) (v : Int32) : va_up (kJ ce0 ad eA cI cB cO cR s r) (3000 + i) (.inr (5, ([.int (r 27 i), .int (r 28 i), .int (r 30 i), .int (r 31 i), .int (r 32 i), .int (r 33 i), .int (r 29 i), .int (r 34 i), .int (r 36 i), .int (r 35 i), .int (r 37 i), .int (r 38 i)] : List Value).set 8 (.int v))) = kJ ce0 ad eA cI cB cO cR s (up2 r 36 i v) := by
  refine kJ_up ?_ (fun k hk => kJ_seg k rfl (fun h => up2_nn _ _ _ (by omega)) rfl (fun _ _ => rfl) (fun _ _ => rfl) (fun j e => by { have z : ¬ j = i := (by omega); simp [kKp, up2, va_up, upd, z] }) (fun _ _ => rfl))
  rw [kJ_kp hi]
  simp [kKp, up2, va_up, upd]
theorem kw_kp_hoursToGo {i : Nat} (hi : i < 1000) (v : Int32) : va_up (kJ ce0 ad eA cI cB cO cR s r) (3000 + i) (.inr (5, ([.int (r 27 i), .int (r 28 i), .int (r 30 i), .int (r 31 i), .int (r 32 i), .int (r 33 i), .int (r 29 i), .int (r 34 i), .int (r 36 i), .int (r 35 i), .int (r 37 i), .int (r 38 i)] : List Value).set 9 (.int v))) = kJ ce0 ad eA cI cB cO cR s (up2 r 35 i v) := by
  refine kJ_up ?_ (fun k hk => kJ_seg k rfl (fun h => up2_nn _ _ _ (by omega)) rfl (fun _ _ => rfl) (fun _ _ => rfl) (fun j e => by { have z : ¬ j = i := (by omega); simp [kKp, up2, va_up, upd, z] }) (fun _ _ => rfl))
  rw [kJ_kp hi]
  simp [kKp, up2, va_up, upd]
theorem kw_kp_aCase {i : Nat} (hi : i < 1000) (v : Int32) : va_up (kJ ce0 ad eA cI cB cO cR s r) (3000 + i) (.inr (5, ([.int (r 27 i), .int (r 28 i), .int (r 30 i), .int (r 31 i), .int (r 32 i), .int (r 33 i), .int (r 29 i), .int (r 34 i), .int (r 36 i), .int (r 35 i), .int (r 37 i), .int (r 38 i)] : List Value).set 10 (.int v))) = kJ ce0 ad eA cI cB cO cR s (up2 r 37 i v) := by
  refine kJ_up ?_ (fun k hk => kJ_seg k rfl (fun h => up2_nn _ _ _ (by omega)) rfl (fun _ _ => rfl) (fun _ _ => rfl) (fun j e => by { have z : ¬ j = i := (by omega); simp [kKp, up2, va_up, upd, z] }) (fun _ _ => rfl))
  rw [kJ_kp hi]
  simp [kKp, up2, va_up, upd]
theorem kw_kp_swarmsHad {i : Nat} (hi : i < 1000) (v : Int32) : va_up (kJ ce0 ad eA cI cB cO cR s r) (3000 + i) (.inr (5, ([.int (r 27 i), .int (r 28 i), .int (r 30 i), .int (r 31 i), .int (r 32 i), .int (r 33 i), .int (r 29 i), .int (r 34 i), .int (r 36 i), .int (r 35 i), .int (r 37 i), .int (r 38 i)] : List Value).set 11 (.int v))) = kJ ce0 ad eA cI cB cO cR s (up2 r 38 i v) := by
  refine kJ_up ?_ (fun k hk => kJ_seg k rfl (fun h => up2_nn _ _ _ (by omega)) rfl (fun _ _ => rfl) (fun _ _ => rfl) (fun j e => by { have z : ¬ j = i := (by omega); simp [kKp, up2, va_up, upd, z] }) (fun _ _ => rfl))
  rw [kJ_kp hi]
  simp [kKp, up2, va_up, upd]
theorem kw_ca_x {i : Nat} (hi : i < 1000) (v : Int32) : va_up (kJ ce0 ad eA cI cB cO cR s r) (4000 + i) (.inr (2, ([.int (r 42 i), .int (r 43 i), .int (r 44 i), .int (r 41 i), .int (r 45 i), .int (r 46 i), .int (r 47 i), .int (r 48 i), .int (r 49 i), .int (r 50 i), .int (r 51 i)] : List Value).set 0 (.int v))) = kJ ce0 ad eA cI cB cO cR s (up2 r 42 i v) := by
  refine kJ_up ?_ (fun k hk => kJ_seg k rfl (fun h => up2_nn _ _ _ (by omega)) rfl (fun _ _ => rfl) (fun _ _ => rfl) (fun _ _ => rfl) (fun j e => by { have z : ¬ j = i := (by omega); simp [kCa, up2, va_up, upd, z] }))
  rw [kJ_ca hi]
  simp [kCa, up2, va_up, upd]
theorem kw_ca_y {i : Nat} (hi : i < 1000) (v : Int32) : va_up (kJ ce0 ad eA cI cB cO cR s r) (4000 + i) (.inr (2, ([.int (r 42 i), .int (r 43 i), .int (r 44 i), .int (r 41 i), .int (r 45 i), .int (r 46 i), .int (r 47 i), .int (r 48 i), .int (r 49 i), .int (r 50 i), .int (r 51 i)] : List Value).set 1 (.int v))) = kJ ce0 ad eA cI cB cO cR s (up2 r 43 i v) := by
  refine kJ_up ?_ (fun k hk => kJ_seg k rfl (fun h => up2_nn _ _ _ (by omega)) rfl (fun _ _ => rfl) (fun _ _ => rfl) (fun _ _ => rfl) (fun j e => by { have z : ¬ j = i := (by omega); simp [kCa, up2, va_up, upd, z] }))
  rw [kJ_ca hi]
  simp [kCa, up2, va_up, upd]
theorem kw_ca_placeIsSure {i : Nat} (hi : i < 1000) (v : Int32) : va_up (kJ ce0 ad eA cI cB cO cR s r) (4000 + i) (.inr (2, ([.int (r 42 i), .int (r 43 i), .int (r 44 i), .int (r 41 i), .int (r 45 i), .int (r 46 i), .int (r 47 i), .int (r 48 i), .int (r 49 i), .int (r 50 i), .int (r 51 i)] : List Value).set 2 (.int v))) = kJ ce0 ad eA cI cB cO cR s (up2 r 44 i v) := by
  refine kJ_up ?_ (fun k hk => kJ_seg k rfl (fun h => up2_nn _ _ _ (by omega)) rfl (fun _ _ => rfl) (fun _ _ => rfl) (fun _ _ => rfl) (fun j e => by { have z : ¬ j = i := (by omega); simp [kCa, up2, va_up, upd, z] }))
  rw [kJ_ca hi]
  simp [kCa, up2, va_up, upd]
theorem kw_ca_state {i : Nat} (hi : i < 1000) (v : Int32) : va_up (kJ ce0 ad eA cI cB cO cR s r) (4000 + i) (.inr (2, ([.int (r 42 i), .int (r 43 i), .int (r 44 i), .int (r 41 i), .int (r 45 i), .int (r 46 i), .int (r 47 i), .int (r 48 i), .int (r 49 i), .int (r 50 i), .int (r 51 i)] : List Value).set 3 (.int v))) = kJ ce0 ad eA cI cB cO cR s (up2 r 41 i v) := by
  refine kJ_up ?_ (fun k hk => kJ_seg k rfl (fun h => up2_nn _ _ _ (by omega)) rfl (fun _ _ => rfl) (fun _ _ => rfl) (fun _ _ => rfl) (fun j e => by { have z : ¬ j = i := (by omega); simp [kCa, up2, va_up, upd, z] }))
  rw [kJ_ca hi]
  simp [kCa, up2, va_up, upd]
theorem kw_ca_high {i : Nat} (hi : i < 1000) (v : Int32) : va_up (kJ ce0 ad eA cI cB cO cR s r) (4000 + i) (.inr (2, ([.int (r 42 i), .int (r 43 i), .int (r 44 i), .int (r 41 i), .int (r 45 i), .int (r 46 i), .int (r 47 i), .int (r 48 i), .int (r 49 i), .int (r 50 i), .int (r 51 i)] : List Value).set 4 (.int v))) = kJ ce0 ad eA cI cB cO cR s (up2 r 45 i v) := by
  refine kJ_up ?_ (fun k hk => kJ_seg k rfl (fun h => up2_nn _ _ _ (by omega)) rfl (fun _ _ => rfl) (fun _ _ => rfl) (fun _ _ => rfl) (fun j e => by { have z : ¬ j = i := (by omega); simp [kCa, up2, va_up, upd, z] }))
  rw [kJ_ca hi]
  simp [kCa, up2, va_up, upd]
theorem kw_ca_since {i : Nat} (hi : i < 1000) (v : Int32) : va_up (kJ ce0 ad eA cI cB cO cR s r) (4000 + i) (.inr (2, ([.int (r 42 i), .int (r 43 i), .int (r 44 i), .int (r 41 i), .int (r 45 i), .int (r 46 i), .int (r 47 i), .int (r 48 i), .int (r 49 i), .int (r 50 i), .int (r 51 i)] : List Value).set 5 (.int v))) = kJ ce0 ad eA cI cB cO cR s (up2 r 46 i v) := by
  refine kJ_up ?_ (fun k hk => kJ_seg k rfl (fun h => up2_nn _ _ _ (by omega)) rfl (fun _ _ => rfl) (fun _ _ => rfl) (fun _ _ => rfl) (fun j e => by { have z : ¬ j = i := (by omega); simp [kCa, up2, va_up, upd, z] }))
  rw [kJ_ca hi]
  simp [kCa, up2, va_up, upd]
theorem kw_ca_mark {i : Nat} (hi : i < 1000) (v : Int32) : va_up (kJ ce0 ad eA cI cB cO cR s r) (4000 + i) (.inr (2, ([.int (r 42 i), .int (r 43 i), .int (r 44 i), .int (r 41 i), .int (r 45 i), .int (r 46 i), .int (r 47 i), .int (r 48 i), .int (r 49 i), .int (r 50 i), .int (r 51 i)] : List Value).set 6 (.int v))) = kJ ce0 ad eA cI cB cO cR s (up2 r 47 i v) := by
  refine kJ_up ?_ (fun k hk => kJ_seg k rfl (fun h => up2_nn _ _ _ (by omega)) rfl (fun _ _ => rfl) (fun _ _ => rfl) (fun _ _ => rfl) (fun j e => by { have z : ¬ j = i := (by omega); simp [kCa, up2, va_up, upd, z] }))
  rw [kJ_ca hi]
  simp [kCa, up2, va_up, upd]
theorem kw_ca_callsMelted {i : Nat} (hi : i < 1000) (v : Int32) : va_up (kJ ce0 ad eA cI cB cO cR s r) (4000 + i) (.inr (2, ([.int (r 42 i), .int (r 43 i), .int (r 44 i), .int (r 41 i), .int (r 45 i), .int (r 46 i), .int (r 47 i), .int (r 48 i), .int (r 49 i), .int (r 50 i), .int (r 51 i)] : List Value).set 7 (.int v))) = kJ ce0 ad eA cI cB cO cR s (up2 r 48 i v) := by
  refine kJ_up ?_ (fun k hk => kJ_seg k rfl (fun h => up2_nn _ _ _ (by omega)) rfl (fun _ _ => rfl) (fun _ _ => rfl) (fun _ _ => rfl) (fun j e => by { have z : ¬ j = i := (by omega); simp [kCa, up2, va_up, upd, z] }))
  rw [kJ_ca hi]
  simp [kCa, up2, va_up, upd]
theorem kw_ca_latest {i : Nat} (hi : i < 1000) (v : Int32) : va_up (kJ ce0 ad eA cI cB cO cR s r) (4000 + i) (.inr (2, ([.int (r 42 i), .int (r 43 i), .int (r 44 i), .int (r 41 i), .int (r 45 i), .int (r 46 i), .int (r 47 i), .int (r 48 i), .int (r 49 i), .int (r 50 i), .int (r 51 i)] : List Value).set 8 (.int v))) = kJ ce0 ad eA cI cB cO cR s (up2 r 49 i v) := by
  refine kJ_up ?_ (fun k hk => kJ_seg k rfl (fun h => up2_nn _ _ _ (by omega)) rfl (fun _ _ => rfl) (fun _ _ => rfl) (fun _ _ => rfl) (fun j e => by { have z : ¬ j = i := (by omega); simp [kCa, up2, va_up, upd, z] }))
  rw [kJ_ca hi]
  simp [kCa, up2, va_up, upd]
theorem kw_ca_keeper {i : Nat} (hi : i < 1000) (v : Int32) : va_up (kJ ce0 ad eA cI cB cO cR s r) (4000 + i) (.inr (2, ([.int (r 42 i), .int (r 43 i), .int (r 44 i), .int (r 41 i), .int (r 45 i), .int (r 46 i), .int (r 47 i), .int (r 48 i), .int (r 49 i), .int (r 50 i), .int (r 51 i)] : List Value).set 9 (.int v))) = kJ ce0 ad eA cI cB cO cR s (up2 r 50 i v) := by
  refine kJ_up ?_ (fun k hk => kJ_seg k rfl (fun h => up2_nn _ _ _ (by omega)) rfl (fun _ _ => rfl) (fun _ _ => rfl) (fun _ _ => rfl) (fun j e => by { have z : ¬ j = i := (by omega); simp [kCa, up2, va_up, upd, z] }))
  rw [kJ_ca hi]
  simp [kCa, up2, va_up, upd]
theorem kw_ca_swarm {i : Nat} (hi : i < 1000) (v : Int32) : va_up (kJ ce0 ad eA cI cB cO cR s r) (4000 + i) (.inr (2, ([.int (r 42 i), .int (r 43 i), .int (r 44 i), .int (r 41 i), .int (r 45 i), .int (r 46 i), .int (r 47 i), .int (r 48 i), .int (r 49 i), .int (r 50 i), .int (r 51 i)] : List Value).set 10 (.int v))) = kJ ce0 ad eA cI cB cO cR s (up2 r 51 i v) := by
  refine kJ_up ?_ (fun k hk => kJ_seg k rfl (fun h => up2_nn _ _ _ (by omega)) rfl (fun _ _ => rfl) (fun _ _ => rfl) (fun _ _ => rfl) (fun j e => by { have z : ¬ j = i := (by omega); simp [kCa, up2, va_up, upd, z] }))
  rw [kJ_ca hi]
  simp [kCa, up2, va_up, upd]
theorem kw_100_calls (v : Int32) : va_up (kJ ce0 ad eA cI cB cO cR s r) 100 (.inr (10, ([.ref (ad 101), .ref (ad 102), .ref (ad 103), .ref (ad 104), .ref (ad 105), .ref (ad 106), .ref (ad 107), .ref (ad 108), .ref (ad 109), .ref (ad 110), .ref (ad 111), .int (s 40), .int (s 1), .int (s 64)] : List Value).set 11 (.int v))) = kJ ce0 ad eA cI cB cO cR (upd s 40 v) r := by
  refine kJ_up rfl (fun k hk => kJ_seg k ?_ (fun _ => rfl) rfl (fun _ _ => rfl) (fun _ _ => rfl) (fun _ _ => rfl) (fun _ _ => rfl))
  unfold kFx
  rw [if_neg hk, if_neg hk]
  rfl
theorem kw_100_now (v : Int32) : va_up (kJ ce0 ad eA cI cB cO cR s r) 100 (.inr (10, ([.ref (ad 101), .ref (ad 102), .ref (ad 103), .ref (ad 104), .ref (ad 105), .ref (ad 106), .ref (ad 107), .ref (ad 108), .ref (ad 109), .ref (ad 110), .ref (ad 111), .int (s 40), .int (s 1), .int (s 64)] : List Value).set 12 (.int v))) = kJ ce0 ad eA cI cB cO cR (upd s 1 v) r := by
  refine kJ_up rfl (fun k hk => kJ_seg k ?_ (fun _ => rfl) rfl (fun _ _ => rfl) (fun _ _ => rfl) (fun _ _ => rfl) (fun _ _ => rfl))
  unfold kFx
  rw [if_neg hk, if_neg hk]
  rfl
theorem kw_100_wrongByte (v : Int32) : va_up (kJ ce0 ad eA cI cB cO cR s r) 100 (.inr (10, ([.ref (ad 101), .ref (ad 102), .ref (ad 103), .ref (ad 104), .ref (ad 105), .ref (ad 106), .ref (ad 107), .ref (ad 108), .ref (ad 109), .ref (ad 110), .ref (ad 111), .int (s 40), .int (s 1), .int (s 64)] : List Value).set 13 (.int v))) = kJ ce0 ad eA cI cB cO cR (upd s 64 v) r := by
  refine kJ_up rfl (fun k hk => kJ_seg k ?_ (fun _ => rfl) rfl (fun _ _ => rfl) (fun _ _ => rfl) (fun _ _ => rfl) (fun _ _ => rfl))
  unfold kFx
  rw [if_neg hk, if_neg hk]
  rfl
theorem kw_101_length (v : Int32) : va_up (kJ ce0 ad eA cI cB cO cR s r) 101 (.inr (8, ([.ref (ad 112), .int (s 61), .int (s 101), .int (s 102), .int (s 103)] : List Value).set 1 (.int v))) = kJ ce0 ad eA cI cB cO cR (upd s 61 v) r := by
  refine kJ_up rfl (fun k hk => kJ_seg k ?_ (fun _ => rfl) rfl (fun _ _ => rfl) (fun _ _ => rfl) (fun _ _ => rfl) (fun _ _ => rfl))
  unfold kFx
  rw [if_neg hk, if_neg hk]
  rfl
theorem kw_101_begin (v : Int32) : va_up (kJ ce0 ad eA cI cB cO cR s r) 101 (.inr (8, ([.ref (ad 112), .int (s 61), .int (s 101), .int (s 102), .int (s 103)] : List Value).set 2 (.int v))) = kJ ce0 ad eA cI cB cO cR (upd s 101 v) r := by
  refine kJ_up rfl (fun k hk => kJ_seg k ?_ (fun _ => rfl) rfl (fun _ _ => rfl) (fun _ _ => rfl) (fun _ _ => rfl) (fun _ _ => rfl))
  unfold kFx
  rw [if_neg hk, if_neg hk]
  rfl
theorem kw_101_behind (v : Int32) : va_up (kJ ce0 ad eA cI cB cO cR s r) 101 (.inr (8, ([.ref (ad 112), .int (s 61), .int (s 101), .int (s 102), .int (s 103)] : List Value).set 3 (.int v))) = kJ ce0 ad eA cI cB cO cR (upd s 102 v) r := by
  refine kJ_up rfl (fun k hk => kJ_seg k ?_ (fun _ => rfl) rfl (fun _ _ => rfl) (fun _ _ => rfl) (fun _ _ => rfl) (fun _ _ => rfl))
  unfold kFx
  rw [if_neg hk, if_neg hk]
  rfl
theorem kw_101_kind (v : Int32) : va_up (kJ ce0 ad eA cI cB cO cR s r) 101 (.inr (8, ([.ref (ad 112), .int (s 61), .int (s 101), .int (s 102), .int (s 103)] : List Value).set 4 (.int v))) = kJ ce0 ad eA cI cB cO cR (upd s 103 v) r := by
  refine kJ_up rfl (fun k hk => kJ_seg k ?_ (fun _ => rfl) rfl (fun _ _ => rfl) (fun _ _ => rfl) (fun _ _ => rfl) (fun _ _ => rfl))
  unfold kFx
  rw [if_neg hk, if_neg hk]
  rfl
theorem kw_102_x (v : Int32) : va_up (kJ ce0 ad eA cI cB cO cR s r) 102 (.inr (3, ([.int (s 104), .int (s 105), .int (s 106), .int (s 107), .int (s 108), .int (s 109)] : List Value).set 0 (.int v))) = kJ ce0 ad eA cI cB cO cR (upd s 104 v) r := by
  refine kJ_up rfl (fun k hk => kJ_seg k ?_ (fun _ => rfl) rfl (fun _ _ => rfl) (fun _ _ => rfl) (fun _ _ => rfl) (fun _ _ => rfl))
  unfold kFx
  rw [if_neg hk, if_neg hk]
  rfl
theorem kw_102_y (v : Int32) : va_up (kJ ce0 ad eA cI cB cO cR s r) 102 (.inr (3, ([.int (s 104), .int (s 105), .int (s 106), .int (s 107), .int (s 108), .int (s 109)] : List Value).set 1 (.int v))) = kJ ce0 ad eA cI cB cO cR (upd s 105 v) r := by
  refine kJ_up rfl (fun k hk => kJ_seg k ?_ (fun _ => rfl) rfl (fun _ _ => rfl) (fun _ _ => rfl) (fun _ _ => rfl) (fun _ _ => rfl))
  unfold kFx
  rw [if_neg hk, if_neg hk]
  rfl
theorem kw_102_high (v : Int32) : va_up (kJ ce0 ad eA cI cB cO cR s r) 102 (.inr (3, ([.int (s 104), .int (s 105), .int (s 106), .int (s 107), .int (s 108), .int (s 109)] : List Value).set 2 (.int v))) = kJ ce0 ad eA cI cB cO cR (upd s 106 v) r := by
  refine kJ_up rfl (fun k hk => kJ_seg k ?_ (fun _ => rfl) rfl (fun _ _ => rfl) (fun _ _ => rfl) (fun _ _ => rfl) (fun _ _ => rfl))
  unfold kFx
  rw [if_neg hk, if_neg hk]
  rfl
theorem kw_102_since (v : Int32) : va_up (kJ ce0 ad eA cI cB cO cR s r) 102 (.inr (3, ([.int (s 104), .int (s 105), .int (s 106), .int (s 107), .int (s 108), .int (s 109)] : List Value).set 3 (.int v))) = kJ ce0 ad eA cI cB cO cR (upd s 107 v) r := by
  refine kJ_up rfl (fun k hk => kJ_seg k ?_ (fun _ => rfl) rfl (fun _ _ => rfl) (fun _ _ => rfl) (fun _ _ => rfl) (fun _ _ => rfl))
  unfold kFx
  rw [if_neg hk, if_neg hk]
  rfl
theorem kw_102_mark (v : Int32) : va_up (kJ ce0 ad eA cI cB cO cR s r) 102 (.inr (3, ([.int (s 104), .int (s 105), .int (s 106), .int (s 107), .int (s 108), .int (s 109)] : List Value).set 4 (.int v))) = kJ ce0 ad eA cI cB cO cR (upd s 108 v) r := by
  refine kJ_up rfl (fun k hk => kJ_seg k ?_ (fun _ => rfl) rfl (fun _ _ => rfl) (fun _ _ => rfl) (fun _ _ => rfl) (fun _ _ => rfl))
  unfold kFx
  rw [if_neg hk, if_neg hk]
  rfl
theorem kw_102_maybe (v : Int32) : va_up (kJ ce0 ad eA cI cB cO cR s r) 102 (.inr (3, ([.int (s 104), .int (s 105), .int (s 106), .int (s 107), .int (s 108), .int (s 109)] : List Value).set 5 (.int v))) = kJ ce0 ad eA cI cB cO cR (upd s 109 v) r := by
  refine kJ_up rfl (fun k hk => kJ_seg k ?_ (fun _ => rfl) rfl (fun _ _ => rfl) (fun _ _ => rfl) (fun _ _ => rfl) (fun _ _ => rfl))
  unfold kFx
  rw [if_neg hk, if_neg hk]
  rfl
theorem kw_104_many (v : Int32) : va_up (kJ ce0 ad eA cI cB cO cR s r) 104 (.inr (1, ([.ref (ad 117), .ref (ad 118), .int (s 57)] : List Value).set 2 (.int v))) = kJ ce0 ad eA cI cB cO cR (upd s 57 v) r := by
  refine kJ_up rfl (fun k hk => kJ_seg k ?_ (fun _ => rfl) rfl (fun _ _ => rfl) (fun _ _ => rfl) (fun _ _ => rfl) (fun _ _ => rfl))
  unfold kFx
  rw [if_neg hk, if_neg hk]
  rfl
theorem kw_110_lines (v : Int32) : va_up (kJ ce0 ad eA cI cB cO cR s r) 110 (.inr (9, ([.ref (ad 119), .ref (ad 121), .int (s 52)] : List Value).set 2 (.int v))) = kJ ce0 ad eA cI cB cO cR (upd s 52 v) r := by
  refine kJ_up rfl (fun k hk => kJ_seg k ?_ (fun _ => rfl) rfl (fun _ _ => rfl) (fun _ _ => rfl) (fun _ _ => rfl) (fun _ _ => rfl))
  unfold kFx
  rw [if_neg hk, if_neg hk]
  rfl
theorem kw_111_lines (v : Int32) : va_up (kJ ce0 ad eA cI cB cO cR s r) 111 (.inr (9, ([.ref (ad 120), .ref (ad 122), .int (s 111)] : List Value).set 2 (.int v))) = kJ ce0 ad eA cI cB cO cR (upd s 111 v) r := by
  refine kJ_up rfl (fun k hk => kJ_seg k ?_ (fun _ => rfl) rfl (fun _ _ => rfl) (fun _ _ => rfl) (fun _ _ => rfl) (fun _ _ => rfl))
  unfold kFx
  rw [if_neg hk, if_neg hk]
  rfl
theorem kw_109 (i : Nat) (v : Int32) : va_up (kJ ce0 ad eA cI cB cO cR s r) 109 (.inl (cI, 8, .inl (upd (r 100) i v))) = kJ ce0 ad eA cI cB cO cR s (up2 r 100 i v) := by
  refine kJ_up rfl (fun k hk => kJ_seg k ?_ (fun h => up2_nn _ _ _ (by omega)) rfl (fun _ _ => rfl) (fun _ _ => rfl) (fun _ _ => rfl) (fun _ _ => rfl))
  unfold kFx
  rw [if_neg hk, if_neg hk]
  rfl
theorem kw_113 (i : Nat) (v : Int32) : va_up (kJ ce0 ad eA cI cB cO cR s r) 113 (.inl (cI, 31, .inl (upd (r 2) i v))) = kJ ce0 ad eA cI cB cO cR s (up2 r 2 i v) := by
  refine kJ_up rfl (fun k hk => kJ_seg k ?_ (fun h => up2_nn _ _ _ (by omega)) rfl (fun _ _ => rfl) (fun _ _ => rfl) (fun _ _ => rfl) (fun _ _ => rfl))
  unfold kFx
  rw [if_neg hk, if_neg hk]
  rfl
theorem kw_114 (i : Nat) (v : Int32) : va_up (kJ ce0 ad eA cI cB cO cR s r) 114 (.inl (cI, 31, .inl (upd (r 3) i v))) = kJ ce0 ad eA cI cB cO cR s (up2 r 3 i v) := by
  refine kJ_up rfl (fun k hk => kJ_seg k ?_ (fun h => up2_nn _ _ _ (by omega)) rfl (fun _ _ => rfl) (fun _ _ => rfl) (fun _ _ => rfl) (fun _ _ => rfl))
  unfold kFx
  rw [if_neg hk, if_neg hk]
  rfl
theorem kw_115 (i : Nat) (v : Int32) : va_up (kJ ce0 ad eA cI cB cO cR s r) 115 (.inl (cI, 31, .inl (upd (r 4) i v))) = kJ ce0 ad eA cI cB cO cR s (up2 r 4 i v) := by
  refine kJ_up rfl (fun k hk => kJ_seg k ?_ (fun h => up2_nn _ _ _ (by omega)) rfl (fun _ _ => rfl) (fun _ _ => rfl) (fun _ _ => rfl) (fun _ _ => rfl))
  unfold kFx
  rw [if_neg hk, if_neg hk]
  rfl
theorem kw_116 (i : Nat) (v : Int32) : va_up (kJ ce0 ad eA cI cB cO cR s r) 116 (.inl (cI, 31, .inl (upd (r 5) i v))) = kJ ce0 ad eA cI cB cO cR s (up2 r 5 i v) := by
  refine kJ_up rfl (fun k hk => kJ_seg k ?_ (fun h => up2_nn _ _ _ (by omega)) rfl (fun _ _ => rfl) (fun _ _ => rfl) (fun _ _ => rfl) (fun _ _ => rfl))
  unfold kFx
  rw [if_neg hk, if_neg hk]
  rfl
theorem kw_117 (i : Nat) (v : Int32) : va_up (kJ ce0 ad eA cI cB cO cR s r) 117 (.inl (cI, 12, .inl (upd (r 58) i v))) = kJ ce0 ad eA cI cB cO cR s (up2 r 58 i v) := by
  refine kJ_up rfl (fun k hk => kJ_seg k ?_ (fun h => up2_nn _ _ _ (by omega)) rfl (fun _ _ => rfl) (fun _ _ => rfl) (fun _ _ => rfl) (fun _ _ => rfl))
  unfold kFx
  rw [if_neg hk, if_neg hk]
  rfl
theorem kw_118 (i : Nat) (v : Int32) : va_up (kJ ce0 ad eA cI cB cO cR s r) 118 (.inl (cI, 12, .inl (upd (r 59) i v))) = kJ ce0 ad eA cI cB cO cR s (up2 r 59 i v) := by
  refine kJ_up rfl (fun k hk => kJ_seg k ?_ (fun h => up2_nn _ _ _ (by omega)) rfl (fun _ _ => rfl) (fun _ _ => rfl) (fun _ _ => rfl) (fun _ _ => rfl))
  unfold kFx
  rw [if_neg hk, if_neg hk]
  rfl
theorem kw_121 (i : Nat) (v : Int32) : va_up (kJ ce0 ad eA cI cB cO cR s r) 121 (.inl (cI, 17, .inl (upd (r 101) i v))) = kJ ce0 ad eA cI cB cO cR s (up2 r 101 i v) := by
  refine kJ_up rfl (fun k hk => kJ_seg k ?_ (fun h => up2_nn _ _ _ (by omega)) rfl (fun _ _ => rfl) (fun _ _ => rfl) (fun _ _ => rfl) (fun _ _ => rfl))
  unfold kFx
  rw [if_neg hk, if_neg hk]
  rfl
theorem kw_122 (i : Nat) (v : Int32) : va_up (kJ ce0 ad eA cI cB cO cR s r) 122 (.inl (cI, 17, .inl (upd (r 102) i v))) = kJ ce0 ad eA cI cB cO cR s (up2 r 102 i v) := by
  refine kJ_up rfl (fun k hk => kJ_seg k ?_ (fun h => up2_nn _ _ _ (by omega)) rfl (fun _ _ => rfl) (fun _ _ => rfl) (fun _ _ => rfl) (fun _ _ => rfl))
  unfold kFx
  rw [if_neg hk, if_neg hk]
  rfl
end KJ
