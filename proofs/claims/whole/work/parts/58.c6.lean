/-! the tape -/
def apS (s : Nat → Int32) : Nat → Int32 := upd s 61 (s 61 + 1 + 1 + 1 + 1)
def apR (a : Int32) (s : Nat → Int32) (r : Nat → Nat → Int32) : Nat → Nat → Int32 := up2 (up2 (up2 (up2 r 60 (Int32.toNatClampNeg (s 61)) ((a >>> (24 &&& 31)) &&& 255)) 60 (Int32.toNatClampNeg (s 61 + 1)) ((a >>> (16 &&& 31)) &&& 255)) 60 (Int32.toNatClampNeg (s 61 + 1 + 1)) ((a >>> (8 &&& 31)) &&& 255)) 60 (Int32.toNatClampNeg (s 61 + 1 + 1 + 1)) ((a >>> (0 &&& 31)) &&& 255)
theorem p1 {x : Int32} (h0 : 0 ≤ x.toInt) (h : x.toInt ≤ 5000) : (x + 1).toInt = x.toInt + 1 := t_add (by have z : (1 : Int32).toInt = 1 := rfl; omega) (by have z : (1 : Int32).toInt = 1 := rfl; omega)
theorem p4 {x : Int32} (h0 : 0 ≤ x.toInt) (h : x.toInt ≤ 396) : (x + 1).toInt = x.toInt + 1 ∧ (x + 1 + 1).toInt = x.toInt + 2 ∧ (x + 1 + 1 + 1).toInt = x.toInt + 3 ∧ (x + 1 + 1 + 1 + 1).toInt = x.toInt + 4 := by
  have a := p1 h0 (by omega)
  have b := p1 (x := x + 1) (by omega) (by omega)
  have c := p1 (x := x + 1 + 1) (by omega) (by omega)
  have d := p1 (x := x + 1 + 1 + 1) (by omega) (by omega)
  omega
theorem kRo_1 {s : Nat → Int32} (h0 : 0 ≤ (s 61).toInt) (h : (s 61).toInt ≤ 396) : kRo 4 s = 1 := by
  unfold kRo
  rw [if_neg]
  rw [t_lt, t_add (by have z : (4 : Int32).toInt = 4 := rfl; omega) (by have z : (4 : Int32).toInt = 4 := rfl; omega)]
  have z : (4 : Int32).toInt = 4 := rfl
  have z2 : (400 : Int32).toInt = 400 := rfl
  omega
def kFv (s : Nat → Int32) : Int32 := if kRo 20 s = 0 then -1 else apS (apS (apS (apS (apS s)))) 61
def kFs (s : Nat → Int32) : Nat → Int32 := if kRo 20 s = 0 then s else apS (apS (apS (apS (apS s))))
def kFr (a b c d e : Int32) (s : Nat → Int32) (r : Nat → Nat → Int32) : Nat → Nat → Int32 := if kRo 20 s = 0 then r else apR e (apS (apS (apS (apS s)))) (apR d (apS (apS (apS s))) (apR c (apS (apS s)) (apR b (apS s) (apR a s r))))
theorem kRo_20 {s : Nat → Int32} (h0 : 0 ≤ (s 61).toInt) (h4 : (s 61).toInt ≤ 400) (h : ¬ kRo 20 s = 0) : (s 61).toInt ≤ 380 := by
  unfold kRo at h
  by_cases c : 400 < s 61 + 20
  · rw [if_pos c] at h; exact absurd rfl h
  · rw [t_lt, t_add (by have z : (20 : Int32).toInt = 20 := rfl; omega) (by have z : (20 : Int32).toInt = 20 := rfl; omega)] at c
    have z : (20 : Int32).toInt = 20 := rfl
    have z2 : (400 : Int32).toInt = 400 := rfl
    omega
theorem apS_61 {s : Nat → Int32} (h0 : 0 ≤ (s 61).toInt) (h : (s 61).toInt ≤ 396) : (apS s 61).toInt = (s 61).toInt + 4 := (p4 h0 h).2.2.2
def hTp (r : Nat → Nat → Int32) : Prop := ∀ j, j < 400 → 0 ≤ (r 60 j).toInt ∧ (r 60 j).toInt ≤ 255
theorem b8_all : ∀ n, n < 256 → ((nI n).toInt8.toInt32 = 32 ↔ nI n = 32) ∧ fLe (nI n).toInt8.toInt32 = fLe (nI n) ∧ fDi (nI n).toInt8.toInt32 = fDi (nI n) := by decide +kernel
theorem b8_x {x : Int32} (h : 0 ≤ x.toInt ∧ x.toInt ≤ 255) : (x.toInt8.toInt32 = 32 ↔ x = 32) ∧ fLe x.toInt8.toInt32 = fLe x ∧ fDi x.toInt8.toInt32 = fDi x := by
  have a := t_ixn h.1
  have b := t_ix h.1
  have c := b8_all x.toNatClampNeg (by omega)
  rw [a] at c
  exact c
def den (t : Nat → Int32) (e : Nat) : Nat → Nat → Nat
  | 0, i => i
  | n + 1, i => if e ≤ i then i else if fDi (t i) = 0 then i else den t e n (i + 1)
theorem den_le (t : Nat → Int32) (e : Nat) : ∀ n i, i ≤ den t e n i ∧ (i ≤ e → den t e n i ≤ e)
  | 0, i => ⟨Nat.le_refl _, fun h => h⟩
  | n + 1, i => by
    have ih := den_le t e n (i + 1)
    unfold den
    split
    · exact ⟨Nat.le_refl _, fun h => h⟩
    · split
      · exact ⟨Nat.le_refl _, fun h => h⟩
      · exact ⟨by omega, fun h => ih.2 (by omega)⟩
def tL (s : Nat → Int32) : Nat := (s 61).toNatClampNeg
def kBg (s : Nat → Int32) (r : Nat → Nat → Int32) : Nat := skp (r 60) (tL s) (1 + tL s) (s 102).toNatClampNeg
def kKd (s : Nat → Int32) (r : Nat → Nat → Int32) (b : Nat) : Int32 := if tL s ≤ b then 0 else if fLe (r 60 b) = 0 then (if fDi (r 60 b) = 0 then 3 else 2) else 1
def kBh (s : Nat → Int32) (r : Nat → Nat → Int32) (b : Nat) : Nat := if tL s ≤ b then b else if fLe (r 60 b) = 0 then (if fDi (r 60 b) = 0 then b + 1 else den (r 60) (tL s) (1 + tL s) b) else wen (r 60) (tL s) (1 + tL s) b
def adB (s : Nat → Int32) (r : Nat → Nat → Int32) (b : Nat) : Nat → Int32 := upd (upd (upd (upd s 102 (nI b)) 101 (nI b)) 103 (kKd s r b)) 102 (nI (kBh s r b))
def adS (s : Nat → Int32) (r : Nat → Nat → Int32) : Nat → Int32 := adB s r (kBg s r)
def tR (s : Nat → Int32) : Prop := 0 ≤ (s 61).toInt ∧ (s 61).toInt ≤ 400 ∧ 0 ≤ (s 102).toInt ∧ (s 102).toInt ≤ (s 61).toInt

set_option maxHeartbeats 4000000 in
set_option maxRecDepth 100000 in
theorem c_X7_append {l : Launch} {D : va_G} {cI cZ cB cO cR cJ : ClassId} {Hb : Heap} {K : kTx} {lv : Nat → Prop} {ad : Nat → Nat} {ce0 : Nat → va_E} (s : Nat → Int32) (r : Nat → Nat → Int32) (hlv : kL lv s) (a : Int32) (h0 : 0 ≤ (s 61).toInt) (h4 : (s 61).toInt ≤ 396) : kMet l D cI cZ cB cO cR cJ Hb K lv ad ce0 yX7_append wsX7_append 1 21 [.ref (ad 101), .int a] s r none (apS s) (apR a s r) := by
  refine Met.ofW (cc := cX7_append) (maxL := 3) (ret := none) (by decide) rfl ?_
  intro p0 e0 s0 m0 args below meth c0 s₁ B hml hv
  obtain ⟨rfl, hG, hK, hE⟩ := hv
  have hx := B.exec
  have hb := B.bytes
  have hr := B.returns
  have hts := atoms_spec (ws := wsX7_append) B.pre
  have hown : s0.vm.findClass RX7 = some m0.cls := findClass_of_methodNamed B.named
  have hlocks := B.notSynchronized
  have S : kX p0 m0 c0 cX7_append 3 s0 _ wsX7_append RX7 D (tyL cI cZ cB cO cR cJ) Hb K := ⟨⟨hx, hb, hml, hown, hts⟩, hK, hE⟩
  have hL : gL Hb [] := gL.nil
  have hH := hG.2.2.2.2
  have hl := lv_entry ([.ref (ad 101), .int a]) (n := 3) (Nat.le_of_ble_eq_true rfl)
  rw [lg_entry_eq]
  generalize (lg_sl ([.ref (ad 101), .int a]) ++ List.replicate (3 - (lg_sl ([.ref (ad 101), .int a])).length) Slot.unset).toArray = ls at hl ⊢
  have hl : lv_has ls 3 [(0, .ref (ad 101)), (1, .int a)] := hl
  refine lv_aload_n hx hb dX7_append_0 rfl (lv_at hl 0 rfl) ?_
  refine lv_iconst (v := 4) hx hb dX7_append_1 (by decide) ?_
  refine k_callV (n := 1) (As := [.int 4]) (rest := []) (st1 := .int 1 :: []) (k := 101) (ci := 8) S hG hL (hlv.f (by decide) (by decide)) rfl rfl (c_X7_hasRoomFor s r hlv  4 ) gX7_append_X7_hasRoomFor rfl ⟨rfl, rfl⟩ (by decide +kernel) ⟨Nat.le_of_ble_eq_true rfl, Nat.le_of_ble_eq_true rfl⟩ rfl hl.1 rfl (Nat.le_of_ble_eq_true rfl) dX7_append_2 ⟨Nat.zero_le _, Nat.zero_le _⟩ (by rw [kRo_1 h0 h4]; rfl) (fun H locs hG hL => ?_)
  refine lv_if_ne (tgt := 9) hx hb dX7_append_5 (by decide) (fun _ => ?_) (fun c => absurd c (by decide))
  refine lv_bipush (v := 24) hx hb dX7_append_9 (by decide) ?_
  refine lv_istore_n (lv' := [(2, .int 24), (0, .ref (ad 101)), (1, .int a)]) hx hb dX7_append_11 rfl hl (by decide) rfl (fun ls hl => ?_)
  refine lv_iload_n hx hb dX7_append_12 rfl (lv_at hl 0 rfl) ?_
  refine lv_if_lt (tgt := 45) hx hb dX7_append_13 (by decide) (fun c => absurd c (by decide)) (fun _ => ?_)
  refine lv_aload_n hx hb dX7_append_16 rfl (lv_at hl 1 rfl) ?_
  refine k_ga (C := RX7) (T := TX7) (N := 5) (ci := 8) (v := .ref (ad 112)) S hG (fun w h => List.mem_cons_of_mem _ (List.mem_append_right _ h)) 101 (hlv.f (by decide) (by decide)) rfl rfl 0 (by decide) rfl (hts (.fieldLink RX7 11 "SwarmLine$Tape" "bytes" "[B") (by decide +kernel)) rfl dX7_append_17 ?_
  refine lv_aload_n hx hb dX7_append_20 rfl (lv_at hl 1 rfl) ?_
  refine k_gi (C := RX7) (T := TX7) (N := 5) (ci := 8) (v := s 61) S hG (fun w h => List.mem_cons_of_mem _ (List.mem_append_right _ h)) 101 (hlv.f (by decide) (by decide)) rfl rfl 1 (by decide) rfl (hts (.fieldLink RX7 15 "SwarmLine$Tape" "length" "I") (by decide +kernel)) rfl (rfl) dX7_append_21 ?_
  refine lv_iload_n hx hb dX7_append_24 rfl (lv_at hl 2 rfl) ?_
  refine lv_iload_n hx hb dX7_append_25 rfl (lv_at hl 0 rfl) ?_
  refine lv_ishr hx hb dX7_append_26 ?_
  refine lv_i2b hx hb dX7_append_27 rfl ?_
  refine k_bst (j := Int32.toNatClampNeg (s 61)) S hG hL 112 (hlv.f (by decide) (by decide)) rfl rfl (show vp_in (s 61) 400 from vp_in_t (by have q := p4 h0 h4; omega) (by have q := p4 h0 h4; omega)) (b8_st _ _ _) dX7_append_28 (fun H locs hG hL => ?_)
  refine lv_aload_n hx hb dX7_append_29 rfl (lv_at hl 1 rfl) ?_
  refine lv_dup hx hb dX7_append_30 rfl ?_
  refine k_gi (C := RX7) (T := TX7) (N := 5) (ci := 8) (v := s 61) S hG (fun w h => List.mem_cons_of_mem _ (List.mem_append_right _ h)) 101 (hlv.f (by decide) (by decide)) rfl rfl 1 (by decide) rfl (hts (.fieldLink RX7 15 "SwarmLine$Tape" "length" "I") (by decide +kernel)) rfl (rfl) dX7_append_31 ?_
  refine lv_iconst (v := 1) hx hb dX7_append_34 (by decide) ?_
  refine lv_iadd hx hb dX7_append_35 ?_
  refine k_pi (C := RX7) (T := TX7) (N := 5) (ci := 8) (ty := .int) S hG hL (fun w h => List.mem_cons_of_mem _ (List.mem_append_right _ h)) tyX7 tyX7_ok nmX7 101 (hlv.f (by decide) (by decide)) rfl rfl 1 (by decide) rfl (hts (.fieldLink RX7 15 "SwarmLine$Tape" "length" "I") (by decide +kernel)) rfl (by decide +kernel) rfl rfl (Nat.le_of_ble_eq_true rfl) (kw_101_length _) dX7_append_36 (fun H locs hG hL => ?_)
  refine lv_iinc (v := 16) (lv' := [(2, .int 16), (0, .ref (ad 101)), (1, .int a)]) hx hb dX7_append_39 hl (k := 0) rfl (by rfl) (by decide) rfl (fun ls hl => ?_)
  refine lv_goto (tgt := 12) hx hb dX7_append_42 (by decide) ?_
  refine lv_iload_n hx hb dX7_append_12 rfl (lv_at hl 0 rfl) ?_
  refine lv_if_lt (tgt := 45) hx hb dX7_append_13 (by decide) (fun c => absurd c (by decide)) (fun _ => ?_)
  refine lv_aload_n hx hb dX7_append_16 rfl (lv_at hl 1 rfl) ?_
  refine k_ga (C := RX7) (T := TX7) (N := 5) (ci := 8) (v := .ref (ad 112)) S hG (fun w h => List.mem_cons_of_mem _ (List.mem_append_right _ h)) 101 (hlv.f (by decide) (by decide)) rfl rfl 0 (by decide) rfl (hts (.fieldLink RX7 11 "SwarmLine$Tape" "bytes" "[B") (by decide +kernel)) rfl dX7_append_17 ?_
  refine lv_aload_n hx hb dX7_append_20 rfl (lv_at hl 1 rfl) ?_
  refine k_gi (C := RX7) (T := TX7) (N := 5) (ci := 8) (v := (s 61) + 1) S hG (fun w h => List.mem_cons_of_mem _ (List.mem_append_right _ h)) 101 (hlv.f (by decide) (by decide)) rfl rfl 1 (by decide) rfl (hts (.fieldLink RX7 15 "SwarmLine$Tape" "length" "I") (by decide +kernel)) rfl (rfl) dX7_append_21 ?_
  refine lv_iload_n hx hb dX7_append_24 rfl (lv_at hl 2 rfl) ?_
  refine lv_iload_n hx hb dX7_append_25 rfl (lv_at hl 0 rfl) ?_
  refine lv_ishr hx hb dX7_append_26 ?_
  refine lv_i2b hx hb dX7_append_27 rfl ?_
  refine k_bst (j := Int32.toNatClampNeg ((s 61) + 1)) S hG hL 112 (hlv.f (by decide) (by decide)) rfl rfl (show vp_in ((s 61) + 1) 400 from vp_in_t (by have q := p4 h0 h4; omega) (by have q := p4 h0 h4; omega)) (b8_st _ _ _) dX7_append_28 (fun H locs hG hL => ?_)
  refine lv_aload_n hx hb dX7_append_29 rfl (lv_at hl 1 rfl) ?_
  refine lv_dup hx hb dX7_append_30 rfl ?_
  refine k_gi (C := RX7) (T := TX7) (N := 5) (ci := 8) (v := (s 61) + 1) S hG (fun w h => List.mem_cons_of_mem _ (List.mem_append_right _ h)) 101 (hlv.f (by decide) (by decide)) rfl rfl 1 (by decide) rfl (hts (.fieldLink RX7 15 "SwarmLine$Tape" "length" "I") (by decide +kernel)) rfl (rfl) dX7_append_31 ?_
  refine lv_iconst (v := 1) hx hb dX7_append_34 (by decide) ?_
  refine lv_iadd hx hb dX7_append_35 ?_
  refine k_pi (C := RX7) (T := TX7) (N := 5) (ci := 8) (ty := .int) S hG hL (fun w h => List.mem_cons_of_mem _ (List.mem_append_right _ h)) tyX7 tyX7_ok nmX7 101 (hlv.f (by decide) (by decide)) rfl rfl 1 (by decide) rfl (hts (.fieldLink RX7 15 "SwarmLine$Tape" "length" "I") (by decide +kernel)) rfl (by decide +kernel) rfl rfl (Nat.le_of_ble_eq_true rfl) ((kw_101_length _).trans (congrArg (fun z => kJ ce0 ad K.2.2.1 cI cB cO cR z (up2 (up2 r 60 (Int32.toNatClampNeg (s 61)) ((a >>> (24 &&& 31)) &&& 255)) 60 (Int32.toNatClampNeg ((s 61) + 1)) ((a >>> (16 &&& 31)) &&& 255))) (upd_tw ..))) dX7_append_36 (fun H locs hG hL => ?_)
  refine lv_iinc (v := 8) (lv' := [(2, .int 8), (0, .ref (ad 101)), (1, .int a)]) hx hb dX7_append_39 hl (k := 0) rfl (by rfl) (by decide) rfl (fun ls hl => ?_)
  refine lv_goto (tgt := 12) hx hb dX7_append_42 (by decide) ?_
  refine lv_iload_n hx hb dX7_append_12 rfl (lv_at hl 0 rfl) ?_
  refine lv_if_lt (tgt := 45) hx hb dX7_append_13 (by decide) (fun c => absurd c (by decide)) (fun _ => ?_)
  refine lv_aload_n hx hb dX7_append_16 rfl (lv_at hl 1 rfl) ?_
  refine k_ga (C := RX7) (T := TX7) (N := 5) (ci := 8) (v := .ref (ad 112)) S hG (fun w h => List.mem_cons_of_mem _ (List.mem_append_right _ h)) 101 (hlv.f (by decide) (by decide)) rfl rfl 0 (by decide) rfl (hts (.fieldLink RX7 11 "SwarmLine$Tape" "bytes" "[B") (by decide +kernel)) rfl dX7_append_17 ?_
  refine lv_aload_n hx hb dX7_append_20 rfl (lv_at hl 1 rfl) ?_
  refine k_gi (C := RX7) (T := TX7) (N := 5) (ci := 8) (v := ((s 61) + 1) + 1) S hG (fun w h => List.mem_cons_of_mem _ (List.mem_append_right _ h)) 101 (hlv.f (by decide) (by decide)) rfl rfl 1 (by decide) rfl (hts (.fieldLink RX7 15 "SwarmLine$Tape" "length" "I") (by decide +kernel)) rfl (rfl) dX7_append_21 ?_
  refine lv_iload_n hx hb dX7_append_24 rfl (lv_at hl 2 rfl) ?_
  refine lv_iload_n hx hb dX7_append_25 rfl (lv_at hl 0 rfl) ?_
  refine lv_ishr hx hb dX7_append_26 ?_
  refine lv_i2b hx hb dX7_append_27 rfl ?_
  refine k_bst (j := Int32.toNatClampNeg (((s 61) + 1) + 1)) S hG hL 112 (hlv.f (by decide) (by decide)) rfl rfl (show vp_in (((s 61) + 1) + 1) 400 from vp_in_t (by have q := p4 h0 h4; omega) (by have q := p4 h0 h4; omega)) (b8_st _ _ _) dX7_append_28 (fun H locs hG hL => ?_)
  refine lv_aload_n hx hb dX7_append_29 rfl (lv_at hl 1 rfl) ?_
  refine lv_dup hx hb dX7_append_30 rfl ?_
  refine k_gi (C := RX7) (T := TX7) (N := 5) (ci := 8) (v := ((s 61) + 1) + 1) S hG (fun w h => List.mem_cons_of_mem _ (List.mem_append_right _ h)) 101 (hlv.f (by decide) (by decide)) rfl rfl 1 (by decide) rfl (hts (.fieldLink RX7 15 "SwarmLine$Tape" "length" "I") (by decide +kernel)) rfl (rfl) dX7_append_31 ?_
  refine lv_iconst (v := 1) hx hb dX7_append_34 (by decide) ?_
  refine lv_iadd hx hb dX7_append_35 ?_
  refine k_pi (C := RX7) (T := TX7) (N := 5) (ci := 8) (ty := .int) S hG hL (fun w h => List.mem_cons_of_mem _ (List.mem_append_right _ h)) tyX7 tyX7_ok nmX7 101 (hlv.f (by decide) (by decide)) rfl rfl 1 (by decide) rfl (hts (.fieldLink RX7 15 "SwarmLine$Tape" "length" "I") (by decide +kernel)) rfl (by decide +kernel) rfl rfl (Nat.le_of_ble_eq_true rfl) ((kw_101_length _).trans (congrArg (fun z => kJ ce0 ad K.2.2.1 cI cB cO cR z (up2 (up2 (up2 r 60 (Int32.toNatClampNeg (s 61)) ((a >>> (24 &&& 31)) &&& 255)) 60 (Int32.toNatClampNeg ((s 61) + 1)) ((a >>> (16 &&& 31)) &&& 255)) 60 (Int32.toNatClampNeg (((s 61) + 1) + 1)) ((a >>> (8 &&& 31)) &&& 255))) (upd_tw ..))) dX7_append_36 (fun H locs hG hL => ?_)
  refine lv_iinc (v := 0) (lv' := [(2, .int 0), (0, .ref (ad 101)), (1, .int a)]) hx hb dX7_append_39 hl (k := 0) rfl (by rfl) (by decide) rfl (fun ls hl => ?_)
  refine lv_goto (tgt := 12) hx hb dX7_append_42 (by decide) ?_
  refine lv_iload_n hx hb dX7_append_12 rfl (lv_at hl 0 rfl) ?_
  refine lv_if_lt (tgt := 45) hx hb dX7_append_13 (by decide) (fun c => absurd c (by decide)) (fun _ => ?_)
  refine lv_aload_n hx hb dX7_append_16 rfl (lv_at hl 1 rfl) ?_
  refine k_ga (C := RX7) (T := TX7) (N := 5) (ci := 8) (v := .ref (ad 112)) S hG (fun w h => List.mem_cons_of_mem _ (List.mem_append_right _ h)) 101 (hlv.f (by decide) (by decide)) rfl rfl 0 (by decide) rfl (hts (.fieldLink RX7 11 "SwarmLine$Tape" "bytes" "[B") (by decide +kernel)) rfl dX7_append_17 ?_
  refine lv_aload_n hx hb dX7_append_20 rfl (lv_at hl 1 rfl) ?_
  refine k_gi (C := RX7) (T := TX7) (N := 5) (ci := 8) (v := (((s 61) + 1) + 1) + 1) S hG (fun w h => List.mem_cons_of_mem _ (List.mem_append_right _ h)) 101 (hlv.f (by decide) (by decide)) rfl rfl 1 (by decide) rfl (hts (.fieldLink RX7 15 "SwarmLine$Tape" "length" "I") (by decide +kernel)) rfl (rfl) dX7_append_21 ?_
  refine lv_iload_n hx hb dX7_append_24 rfl (lv_at hl 2 rfl) ?_
  refine lv_iload_n hx hb dX7_append_25 rfl (lv_at hl 0 rfl) ?_
  refine lv_ishr hx hb dX7_append_26 ?_
  refine lv_i2b hx hb dX7_append_27 rfl ?_
  refine k_bst (j := Int32.toNatClampNeg ((((s 61) + 1) + 1) + 1)) S hG hL 112 (hlv.f (by decide) (by decide)) rfl rfl (show vp_in ((((s 61) + 1) + 1) + 1) 400 from vp_in_t (by have q := p4 h0 h4; omega) (by have q := p4 h0 h4; omega)) (b8_st _ _ _) dX7_append_28 (fun H locs hG hL => ?_)
  refine lv_aload_n hx hb dX7_append_29 rfl (lv_at hl 1 rfl) ?_
  refine lv_dup hx hb dX7_append_30 rfl ?_
  refine k_gi (C := RX7) (T := TX7) (N := 5) (ci := 8) (v := (((s 61) + 1) + 1) + 1) S hG (fun w h => List.mem_cons_of_mem _ (List.mem_append_right _ h)) 101 (hlv.f (by decide) (by decide)) rfl rfl 1 (by decide) rfl (hts (.fieldLink RX7 15 "SwarmLine$Tape" "length" "I") (by decide +kernel)) rfl (rfl) dX7_append_31 ?_
  refine lv_iconst (v := 1) hx hb dX7_append_34 (by decide) ?_
  refine lv_iadd hx hb dX7_append_35 ?_
  refine k_pi (C := RX7) (T := TX7) (N := 5) (ci := 8) (ty := .int) S hG hL (fun w h => List.mem_cons_of_mem _ (List.mem_append_right _ h)) tyX7 tyX7_ok nmX7 101 (hlv.f (by decide) (by decide)) rfl rfl 1 (by decide) rfl (hts (.fieldLink RX7 15 "SwarmLine$Tape" "length" "I") (by decide +kernel)) rfl (by decide +kernel) rfl rfl (Nat.le_of_ble_eq_true rfl) ((kw_101_length _).trans (congrArg (fun z => kJ ce0 ad K.2.2.1 cI cB cO cR z (up2 (up2 (up2 (up2 r 60 (Int32.toNatClampNeg (s 61)) ((a >>> (24 &&& 31)) &&& 255)) 60 (Int32.toNatClampNeg ((s 61) + 1)) ((a >>> (16 &&& 31)) &&& 255)) 60 (Int32.toNatClampNeg (((s 61) + 1) + 1)) ((a >>> (8 &&& 31)) &&& 255)) 60 (Int32.toNatClampNeg ((((s 61) + 1) + 1) + 1)) ((a >>> (0 &&& 31)) &&& 255))) (upd_tw ..))) dX7_append_36 (fun H locs hG hL => ?_)
  refine lv_iinc (v := (-8)) (lv' := [(2, .int (-8)), (0, .ref (ad 101)), (1, .int a)]) hx hb dX7_append_39 hl (k := 0) rfl (by rfl) (by decide) rfl (fun ls hl => ?_)
  refine lv_goto (tgt := 12) hx hb dX7_append_42 (by decide) ?_
  refine lv_iload_n hx hb dX7_append_12 rfl (lv_at hl 0 rfl) ?_
  refine lv_if_lt (tgt := 45) hx hb dX7_append_13 (by decide) (fun _ => ?_) (fun c => absurd c (by decide))
  exact g_vret S.1 hr hlocks hG hL rfl (congr (congrArg (kJ ce0 ad K.2.2.1 cI cB cO cR) (by rfl)) (by rfl)) dX7_append_45

set_option maxHeartbeats 4000000 in
set_option maxRecDepth 100000 in
theorem c_X9_feed {l : Launch} {D : va_G} {cI cZ cB cO cR cJ : ClassId} {Hb : Heap} {K : kTx} {lv : Nat → Prop} {ad : Nat → Nat} {ce0 : Nat → va_E} (s : Nat → Int32) (r : Nat → Nat → Int32) (hlv : kL lv s) (a : Int32) (b : Int32) (c : Int32) (d : Int32) (e : Int32) (h0 : 0 ≤ (s 61).toInt) (h4 : (s 61).toInt ≤ 400) : kMet l D cI cZ cB cO cR cJ Hb K lv ad ce0 yX9_feed wsX9_feed 2 43 [.ref (ad 100), .int a, .int b, .int c, .int d, .int e] s r (some (.int (kFv s))) (kFs s) (kFr a b c d e s r) := by
  refine Met.ofW (cc := cX9_feed) (maxL := 6) (ret := (some .int)) (by decide) rfl ?_
  intro p0 e0 s0 m0 args below meth c0 s₁ B hml hv
  obtain ⟨rfl, hG, hK, hE⟩ := hv
  have hx := B.exec
  have hb := B.bytes
  have hr := B.returns
  have hts := atoms_spec (ws := wsX9_feed) B.pre
  have hown : s0.vm.findClass RX9 = some m0.cls := findClass_of_methodNamed B.named
  have hlocks := B.notSynchronized
  have S : kX p0 m0 c0 cX9_feed 6 s0 _ wsX9_feed RX9 D (tyL cI cZ cB cO cR cJ) Hb K := ⟨⟨hx, hb, hml, hown, hts⟩, hK, hE⟩
  have hL : gL Hb [] := gL.nil
  have hH := hG.2.2.2.2
  have hl := lv_entry ([.ref (ad 100), .int a, .int b, .int c, .int d, .int e]) (n := 6) (Nat.le_of_ble_eq_true rfl)
  rw [lg_entry_eq]
  generalize (lg_sl ([.ref (ad 100), .int a, .int b, .int c, .int d, .int e]) ++ List.replicate (6 - (lg_sl ([.ref (ad 100), .int a, .int b, .int c, .int d, .int e])).length) Slot.unset).toArray = ls at hl ⊢
  have hl : lv_has ls 6 [(0, .ref (ad 100)), (1, .int a), (2, .int b), (3, .int c), (4, .int d), (5, .int e)] := hl
  refine lv_aload_n hx hb dX9_feed_0 rfl (lv_at hl 0 rfl) ?_
  refine k_ga (C := RX9) (T := TX9) (N := 14) (ci := 10) (v := .ref (ad 101)) S hG (fun w h => List.mem_cons_of_mem _ (List.mem_append_left _ (List.mem_append_right _ h))) 100 (hlv.f (by decide) (by decide)) rfl rfl 0 (by decide) rfl (hts (.fieldLink RX9 10 "SwarmLine" "tape" "LSwarmLine$Tape;") (by decide +kernel)) rfl dX9_feed_1 ?_
  refine lv_bipush (v := 20) hx hb dX9_feed_4 (by decide) ?_
  refine k_callV (n := 1) (As := [.int 20]) (rest := []) (st1 := .int (kRo 20 s) :: []) (k := 101) (ci := 8) S hG hL (hlv.f (by decide) (by decide)) rfl rfl (c_X7_hasRoomFor s r hlv  20 ) gX9_feed_X7_hasRoomFor rfl ⟨rfl, rfl⟩ (by decide +kernel) ⟨Nat.le_of_ble_eq_true rfl, Nat.le_of_ble_eq_true rfl⟩ rfl hl.1 rfl (Nat.le_of_ble_eq_true rfl) dX9_feed_6 ⟨Nat.zero_le _, Nat.zero_le _⟩ (rfl) (fun H locs hG hL => ?_)
  refine lv_if_ne (tgt := 14) hx hb dX9_feed_9 (by decide) (fun c9 => ?_) (fun c9 => ?_)
  ·
    refine lv_aload_n hx hb dX9_feed_14 rfl (lv_at hl 0 rfl) ?_
    refine k_ga (C := RX9) (T := TX9) (N := 14) (ci := 10) (v := .ref (ad 101)) S hG (fun w h => List.mem_cons_of_mem _ (List.mem_append_left _ (List.mem_append_right _ h))) 100 (hlv.f (by decide) (by decide)) rfl rfl 0 (by decide) rfl (hts (.fieldLink RX9 10 "SwarmLine" "tape" "LSwarmLine$Tape;") (by decide +kernel)) rfl dX9_feed_15 ?_
    refine lv_iload_n hx hb dX9_feed_18 rfl (lv_at hl 1 rfl) ?_
    refine k_callV (n := 1) (As := [.int a]) (rest := []) (st1 := []) (k := 101) (ci := 8) S hG hL (hlv.f (by decide) (by decide)) rfl rfl (c_X7_append s r hlv  a (by have q0 := kRo_20 h0 h4 c9; omega) (by have q0 := kRo_20 h0 h4 c9; omega)) gX9_feed_X7_append rfl ⟨rfl, rfl⟩ (by decide +kernel) ⟨Nat.le_of_ble_eq_true rfl, Nat.le_of_ble_eq_true rfl⟩ rfl hl.1 rfl (Nat.le_of_ble_eq_true rfl) dX9_feed_19 ⟨Nat.zero_le _, Nat.zero_le _⟩ (rfl) (fun H locs hG hL => ?_)
    refine lv_aload_n hx hb dX9_feed_22 rfl (lv_at hl 0 rfl) ?_
    refine k_ga (C := RX9) (T := TX9) (N := 14) (ci := 10) (v := .ref (ad 101)) S hG (fun w h => List.mem_cons_of_mem _ (List.mem_append_left _ (List.mem_append_right _ h))) 100 (hlv.f (by decide) (by decide)) rfl rfl 0 (by decide) rfl (hts (.fieldLink RX9 10 "SwarmLine" "tape" "LSwarmLine$Tape;") (by decide +kernel)) rfl dX9_feed_23 ?_
    refine lv_iload_n hx hb dX9_feed_26 rfl (lv_at hl 2 rfl) ?_
    refine k_callV (n := 1) (As := [.int b]) (rest := []) (st1 := []) (k := 101) (ci := 8) S hG hL (hlv.f (by decide) (by decide)) rfl rfl (c_X7_append (apS s) (apR a s r) hlv  b (by have q0 := kRo_20 h0 h4 c9; have q1 := apS_61 (s := s) (by omega) (by omega); omega) (by have q0 := kRo_20 h0 h4 c9; have q1 := apS_61 (s := s) (by omega) (by omega); omega)) gX9_feed_X7_append rfl ⟨rfl, rfl⟩ (by decide +kernel) ⟨Nat.le_of_ble_eq_true rfl, Nat.le_of_ble_eq_true rfl⟩ rfl hl.1 rfl (Nat.le_of_ble_eq_true rfl) dX9_feed_27 ⟨Nat.zero_le _, Nat.zero_le _⟩ (rfl) (fun H locs hG hL => ?_)
    refine lv_aload_n hx hb dX9_feed_30 rfl (lv_at hl 0 rfl) ?_
    refine k_ga (C := RX9) (T := TX9) (N := 14) (ci := 10) (v := .ref (ad 101)) S hG (fun w h => List.mem_cons_of_mem _ (List.mem_append_left _ (List.mem_append_right _ h))) 100 (hlv.f (by decide) (by decide)) rfl rfl 0 (by decide) rfl (hts (.fieldLink RX9 10 "SwarmLine" "tape" "LSwarmLine$Tape;") (by decide +kernel)) rfl dX9_feed_31 ?_
    refine lv_iload_n hx hb dX9_feed_34 rfl (lv_at hl 3 rfl) ?_
    refine k_callV (n := 1) (As := [.int c]) (rest := []) (st1 := []) (k := 101) (ci := 8) S hG hL (hlv.f (by decide) (by decide)) rfl rfl (c_X7_append (apS (apS s)) (apR b (apS s) (apR a s r)) hlv  c (by have q0 := kRo_20 h0 h4 c9; have q1 := apS_61 (s := s) (by omega) (by omega); have q2 := apS_61 (s := (apS s)) (by omega) (by omega); omega) (by have q0 := kRo_20 h0 h4 c9; have q1 := apS_61 (s := s) (by omega) (by omega); have q2 := apS_61 (s := (apS s)) (by omega) (by omega); omega)) gX9_feed_X7_append rfl ⟨rfl, rfl⟩ (by decide +kernel) ⟨Nat.le_of_ble_eq_true rfl, Nat.le_of_ble_eq_true rfl⟩ rfl hl.1 rfl (Nat.le_of_ble_eq_true rfl) dX9_feed_35 ⟨Nat.zero_le _, Nat.zero_le _⟩ (rfl) (fun H locs hG hL => ?_)
    refine lv_aload_n hx hb dX9_feed_38 rfl (lv_at hl 0 rfl) ?_
    refine k_ga (C := RX9) (T := TX9) (N := 14) (ci := 10) (v := .ref (ad 101)) S hG (fun w h => List.mem_cons_of_mem _ (List.mem_append_left _ (List.mem_append_right _ h))) 100 (hlv.f (by decide) (by decide)) rfl rfl 0 (by decide) rfl (hts (.fieldLink RX9 10 "SwarmLine" "tape" "LSwarmLine$Tape;") (by decide +kernel)) rfl dX9_feed_39 ?_
    refine lv_iload hx hb dX9_feed_42 (lv_at hl 4 rfl) ?_
    refine k_callV (n := 1) (As := [.int d]) (rest := []) (st1 := []) (k := 101) (ci := 8) S hG hL (hlv.f (by decide) (by decide)) rfl rfl (c_X7_append (apS (apS (apS s))) (apR c (apS (apS s)) (apR b (apS s) (apR a s r))) hlv  d (by have q0 := kRo_20 h0 h4 c9; have q1 := apS_61 (s := s) (by omega) (by omega); have q2 := apS_61 (s := (apS s)) (by omega) (by omega); have q3 := apS_61 (s := (apS (apS s))) (by omega) (by omega); omega) (by have q0 := kRo_20 h0 h4 c9; have q1 := apS_61 (s := s) (by omega) (by omega); have q2 := apS_61 (s := (apS s)) (by omega) (by omega); have q3 := apS_61 (s := (apS (apS s))) (by omega) (by omega); omega)) gX9_feed_X7_append rfl ⟨rfl, rfl⟩ (by decide +kernel) ⟨Nat.le_of_ble_eq_true rfl, Nat.le_of_ble_eq_true rfl⟩ rfl hl.1 rfl (Nat.le_of_ble_eq_true rfl) dX9_feed_44 ⟨Nat.zero_le _, Nat.zero_le _⟩ (rfl) (fun H locs hG hL => ?_)
    refine lv_aload_n hx hb dX9_feed_47 rfl (lv_at hl 0 rfl) ?_
    refine k_ga (C := RX9) (T := TX9) (N := 14) (ci := 10) (v := .ref (ad 101)) S hG (fun w h => List.mem_cons_of_mem _ (List.mem_append_left _ (List.mem_append_right _ h))) 100 (hlv.f (by decide) (by decide)) rfl rfl 0 (by decide) rfl (hts (.fieldLink RX9 10 "SwarmLine" "tape" "LSwarmLine$Tape;") (by decide +kernel)) rfl dX9_feed_48 ?_
    refine lv_iload hx hb dX9_feed_51 (lv_at hl 5 rfl) ?_
    refine k_callV (n := 1) (As := [.int e]) (rest := []) (st1 := []) (k := 101) (ci := 8) S hG hL (hlv.f (by decide) (by decide)) rfl rfl (c_X7_append (apS (apS (apS (apS s)))) (apR d (apS (apS (apS s))) (apR c (apS (apS s)) (apR b (apS s) (apR a s r)))) hlv  e (by have q0 := kRo_20 h0 h4 c9; have q1 := apS_61 (s := s) (by omega) (by omega); have q2 := apS_61 (s := (apS s)) (by omega) (by omega); have q3 := apS_61 (s := (apS (apS s))) (by omega) (by omega); have q4 := apS_61 (s := (apS (apS (apS s)))) (by omega) (by omega); omega) (by have q0 := kRo_20 h0 h4 c9; have q1 := apS_61 (s := s) (by omega) (by omega); have q2 := apS_61 (s := (apS s)) (by omega) (by omega); have q3 := apS_61 (s := (apS (apS s))) (by omega) (by omega); have q4 := apS_61 (s := (apS (apS (apS s)))) (by omega) (by omega); omega)) gX9_feed_X7_append rfl ⟨rfl, rfl⟩ (by decide +kernel) ⟨Nat.le_of_ble_eq_true rfl, Nat.le_of_ble_eq_true rfl⟩ rfl hl.1 rfl (Nat.le_of_ble_eq_true rfl) dX9_feed_53 ⟨Nat.zero_le _, Nat.zero_le _⟩ (rfl) (fun H locs hG hL => ?_)
    refine lv_aload_n hx hb dX9_feed_56 rfl (lv_at hl 0 rfl) ?_
    refine k_ga (C := RX9) (T := TX9) (N := 14) (ci := 10) (v := .ref (ad 101)) S hG (fun w h => List.mem_cons_of_mem _ (List.mem_append_left _ (List.mem_append_right _ h))) 100 (hlv.f (by decide) (by decide)) rfl rfl 0 (by decide) rfl (hts (.fieldLink RX9 10 "SwarmLine" "tape" "LSwarmLine$Tape;") (by decide +kernel)) rfl dX9_feed_57 ?_
    refine k_giN (C := RX7) (T := TX7) (N := 5) (ci := 8) (v := (apS (apS (apS (apS (apS s))))) 61) S hG (fun w h => List.mem_cons_of_mem _ (List.mem_append_right _ h)) 101 (hlv.f (by decide) (by decide)) rfl rfl 1 (by decide) rfl (by decide +kernel) rfl (rfl) dX9_feed_60 ?_
    exact g_iret S.1 hr hlocks hG hL (congrArg (fun z => some (Value.int z)) (by simp only [kFv, eq_false c9, if_true, if_false])) (congr (congrArg (kJ ce0 ad K.2.2.1 cI cB cO cR) (by simp only [kFs, eq_false c9, if_true, if_false])) (by simp only [kFr, eq_false c9, if_true, if_false])) dX9_feed_63
  ·
    refine lv_iconst (v := (-1)) hx hb dX9_feed_12 (by decide) ?_
    exact g_iret S.1 hr hlocks hG hL (congrArg (fun z => some (Value.int z)) (by simp only [kFv, eq_true c9, if_true, if_false])) (congr (congrArg (kJ ce0 ad K.2.2.1 cI cB cO cR) (by simp only [kFs, eq_true c9, if_true, if_false])) (by simp only [kFr, eq_true c9, if_true, if_false])) dX9_feed_13

set_option maxHeartbeats 4000000 in
set_option maxRecDepth 100000 in
theorem c_X7_advance {l : Launch} {D : va_G} {cI cZ cB cO cR cJ : ClassId} {Hb : Heap} {K : kTx} {lv : Nat → Prop} {ad : Nat → Nat} {ce0 : Nat → va_E} (s : Nat → Int32) (r : Nat → Nat → Int32) (hlv : kL lv s)  (hB : tR s) (hT : hTp r) : kMet l D cI cZ cB cO cR cJ Hb K lv ad ce0 yX7_advance wsX7_advance 1 20 [.ref (ad 101)] s r none (adS s r) r := by
  refine Met.ofW (cc := cX7_advance) (maxL := 1) (ret := none) (by decide) rfl ?_
  intro p0 e0 s0 m0 args below meth c0 s₁ B hml hv
  obtain ⟨rfl, hG, hK, hE⟩ := hv
  have hx := B.exec
  have hb := B.bytes
  have hr := B.returns
  have hts := atoms_spec (ws := wsX7_advance) B.pre
  have hown : s0.vm.findClass RX7 = some m0.cls := findClass_of_methodNamed B.named
  have hlocks := B.notSynchronized
  have S : kX p0 m0 c0 cX7_advance 1 s0 _ wsX7_advance RX7 D (tyL cI cZ cB cO cR cJ) Hb K := ⟨⟨hx, hb, hml, hown, hts⟩, hK, hE⟩
  have hL : gL Hb [] := gL.nil
  have hH := hG.2.2.2.2
  have hl := lv_entry ([.ref (ad 101)]) (n := 1) (Nat.le_of_ble_eq_true rfl)
  rw [lg_entry_eq]
  generalize (lg_sl ([.ref (ad 101)]) ++ List.replicate (1 - (lg_sl ([.ref (ad 101)])).length) Slot.unset).toArray = ls at hl ⊢
  have hl : lv_has ls 1 [(0, .ref (ad 101))] := hl
  have hr1 : tL s ≤ 400 := t_ixl hB.1 hB.2.1
  have hr0 : (s 102).toNatClampNeg ≤ tL s := by { have q1 := t_ix hB.1; have q2 := t_ix hB.2.2.1; have q3 := hB.2.2.2; unfold tL; omega }
  have L1 : ∀ (n : Nat) (i : Nat) (x : Int32) (ex : x = nI i) (hi : i ≤ tL s) (hn : tL s + 1 ≤ i + n) (hF : skp (r 60) (tL s) n i = kBg s r), ∀ (H : Heap) (locs : List Loc), gW D Hb lv ad (kJ ce0 ad K.2.2.1 cI cB cO cR (upd s 102 x) r) H → gL Hb locs → ∀ (ls : Array Slot), lv_has ls 1 [(0, .ref (ad 101))] → W p0 l e0 (headSpec wsX7_advance { frames := 1, cells := 0, slots := 0, locals := 20 }).room s0 m0 ([.ref (ad 101)] : List Value).toArray below meth c0 H locs 0 0 (MQ below (gQ D Hb lv ad none (kJ ce0 ad K.2.2.1 cI cB cO cR (adS s r) r)) ([.ref (ad 101)] : List Value).toArray s0 0 0 (gA Hb)) (F0 m0 0 ls []) := by
    intro n
    induction n with
    | zero => intro i x ex hi hn hF; exact absurd hn (by omega)
    | succ n ih =>
      intro i x ex hi hn hF H locs hG hL ls hl
      have hii : Int32.toNatClampNeg x = i := by { rw [ex]; exact ix_nI (by omega) }
      have L2 : ∀ (i : Nat) (x : Int32) (ex : x = nI i) (hi : i ≤ tL s) (hB2 : i = kBg s r), ∀ (H : Heap) (locs : List Loc), gW D Hb lv ad (kJ ce0 ad K.2.2.1 cI cB cO cR (upd s 102 x) r) H → gL Hb locs → ∀ (ls : Array Slot), lv_has ls 1 [(0, .ref (ad 101))] → W p0 l e0 (headSpec wsX7_advance { frames := 1, cells := 0, slots := 0, locals := 20 }).room s0 m0 ([.ref (ad 101)] : List Value).toArray below meth c0 H locs 0 0 (MQ below (gQ D Hb lv ad none (kJ ce0 ad K.2.2.1 cI cB cO cR (adS s r) r)) ([.ref (ad 101)] : List Value).toArray s0 0 0 (gA Hb)) (F0 m0 38 ls []) := by
        intro i x ex hi hB2 H locs hG hL ls hl
        have hii : Int32.toNatClampNeg x = i := by { rw [ex]; exact ix_nI (by omega) }
        refine lv_aload_n hx hb dX7_advance_38 rfl (lv_at hl 0 rfl) ?_
        refine lv_aload_n hx hb dX7_advance_39 rfl (lv_at hl 0 rfl) ?_
        refine k_gi (C := RX7) (T := TX7) (N := 5) (ci := 8) (v := x) S hG (fun w h => List.mem_cons_of_mem _ (List.mem_append_right _ h)) 101 (hlv.f (by decide) (by decide)) rfl rfl 3 (by decide) rfl (hts (.fieldLink RX7 22 "SwarmLine$Tape" "behind" "I") (by decide +kernel)) rfl (rfl) dX7_advance_40 ?_
        refine k_pi (C := RX7) (T := TX7) (N := 5) (ci := 8) (ty := .int) S hG hL (fun w h => List.mem_cons_of_mem _ (List.mem_append_right _ h)) tyX7 tyX7_ok nmX7 101 (hlv.f (by decide) (by decide)) rfl rfl 2 (by decide) rfl (hts (.fieldLink RX7 19 "SwarmLine$Tape" "begin" "I") (by decide +kernel)) rfl (by decide +kernel) rfl rfl (Nat.le_of_ble_eq_true rfl) (kw_101_begin _) dX7_advance_43 (fun H locs hG hL => ?_)
        refine lv_aload_n hx hb dX7_advance_46 rfl (lv_at hl 0 rfl) ?_
        refine k_gi (C := RX7) (T := TX7) (N := 5) (ci := 8) (v := x) S hG (fun w h => List.mem_cons_of_mem _ (List.mem_append_right _ h)) 101 (hlv.f (by decide) (by decide)) rfl rfl 2 (by decide) rfl (hts (.fieldLink RX7 19 "SwarmLine$Tape" "begin" "I") (by decide +kernel)) rfl (rfl) dX7_advance_47 ?_
        refine lv_aload_n hx hb dX7_advance_50 rfl (lv_at hl 0 rfl) ?_
        refine k_gi (C := RX7) (T := TX7) (N := 5) (ci := 8) (v := s 61) S hG (fun w h => List.mem_cons_of_mem _ (List.mem_append_right _ h)) 101 (hlv.f (by decide) (by decide)) rfl rfl 1 (by decide) rfl (hts (.fieldLink RX7 15 "SwarmLine$Tape" "length" "I") (by decide +kernel)) rfl (rfl) dX7_advance_51 ?_
        refine lv_icmp_lt (tgt := 65) hx hb dX7_advance_54 (by decide) (fun c54 => ?_) (fun c54 => ?_)
        ·
          have hlt : i < tL s := by { have q := c54; rw [t_lt, ex, nI_toInt (by omega)] at q; have q2 := t_ix hB.1; unfold tL at *; omega }
          refine lv_aload_n hx hb dX7_advance_65 rfl (lv_at hl 0 rfl) ?_
          refine k_ga (C := RX7) (T := TX7) (N := 5) (ci := 8) (v := .ref (ad 112)) S hG (fun w h => List.mem_cons_of_mem _ (List.mem_append_right _ h)) 101 (hlv.f (by decide) (by decide)) rfl rfl 0 (by decide) rfl (hts (.fieldLink RX7 11 "SwarmLine$Tape" "bytes" "[B") (by decide +kernel)) rfl dX7_advance_66 ?_
          refine lv_aload_n hx hb dX7_advance_69 rfl (lv_at hl 0 rfl) ?_
          refine k_gi (C := RX7) (T := TX7) (N := 5) (ci := 8) (v := x) S hG (fun w h => List.mem_cons_of_mem _ (List.mem_append_right _ h)) 101 (hlv.f (by decide) (by decide)) rfl rfl 2 (by decide) rfl (hts (.fieldLink RX7 19 "SwarmLine$Tape" "begin" "I") (by decide +kernel)) rfl (rfl) dX7_advance_70 ?_
          refine k_bld (j := i) (v := (r 60 i).toInt8.toInt32) S hG 112 (hlv.f (by decide) (by decide)) rfl hii (show vp_in x 400 from by rw [ex]; exact vp_in_i (by omega) (by omega)) (rfl) dX7_advance_73 ?_
          refine m_callP (n := 1) (As := [.int ((r 60 i).toInt8.toInt32)]) (rest := []) (st1 := .int (fLe (r 60 i)) :: []) S.1 (c_X7_isLetter ((r 60 i).toInt8.toInt32)) gX7_advance_X7_isLetter rfl (by decide +kernel) ⟨Nat.le_of_ble_eq_true rfl, Nat.le_of_ble_eq_true rfl⟩ rfl hl.1 rfl (Nat.le_of_ble_eq_true rfl) dX7_advance_74 ⟨Nat.zero_le _, Nat.zero_le _⟩ (by rw [(b8_x (hT i (by omega))).2.1]; rfl) ?_
          refine lv_if_eq (tgt := 124) hx hb dX7_advance_77 (by decide) (fun c77 => ?_) (fun c77 => ?_)
          ·
            refine lv_aload_n hx hb dX7_advance_124 rfl (lv_at hl 0 rfl) ?_
            refine k_ga (C := RX7) (T := TX7) (N := 5) (ci := 8) (v := .ref (ad 112)) S hG (fun w h => List.mem_cons_of_mem _ (List.mem_append_right _ h)) 101 (hlv.f (by decide) (by decide)) rfl rfl 0 (by decide) rfl (hts (.fieldLink RX7 11 "SwarmLine$Tape" "bytes" "[B") (by decide +kernel)) rfl dX7_advance_125 ?_
            refine lv_aload_n hx hb dX7_advance_128 rfl (lv_at hl 0 rfl) ?_
            refine k_gi (C := RX7) (T := TX7) (N := 5) (ci := 8) (v := x) S hG (fun w h => List.mem_cons_of_mem _ (List.mem_append_right _ h)) 101 (hlv.f (by decide) (by decide)) rfl rfl 2 (by decide) rfl (hts (.fieldLink RX7 19 "SwarmLine$Tape" "begin" "I") (by decide +kernel)) rfl (rfl) dX7_advance_129 ?_
            refine k_bld (j := i) (v := (r 60 i).toInt8.toInt32) S hG 112 (hlv.f (by decide) (by decide)) rfl hii (show vp_in x 400 from by rw [ex]; exact vp_in_i (by omega) (by omega)) (rfl) dX7_advance_132 ?_
            refine m_callP (n := 1) (As := [.int ((r 60 i).toInt8.toInt32)]) (rest := []) (st1 := .int (fDi (r 60 i)) :: []) S.1 (c_X7_isDigit ((r 60 i).toInt8.toInt32)) gX7_advance_X7_isDigit rfl (by decide +kernel) ⟨Nat.le_of_ble_eq_true rfl, Nat.le_of_ble_eq_true rfl⟩ rfl hl.1 rfl (Nat.le_of_ble_eq_true rfl) dX7_advance_133 ⟨Nat.zero_le _, Nat.zero_le _⟩ (by rw [(b8_x (hT i (by omega))).2.2]; rfl) ?_
            refine lv_if_eq (tgt := 183) hx hb dX7_advance_136 (by decide) (fun c136 => ?_) (fun c136 => ?_)
            ·
              refine lv_aload_n hx hb dX7_advance_183 rfl (lv_at hl 0 rfl) ?_
              refine lv_iconst (v := 3) hx hb dX7_advance_184 (by decide) ?_
              refine k_pi (C := RX7) (T := TX7) (N := 5) (ci := 8) (ty := .int) S hG hL (fun w h => List.mem_cons_of_mem _ (List.mem_append_right _ h)) tyX7 tyX7_ok nmX7 101 (hlv.f (by decide) (by decide)) rfl rfl 4 (by decide) rfl (hts (.fieldLink RX7 25 "SwarmLine$Tape" "kind" "I") (by decide +kernel)) rfl (by decide +kernel) rfl rfl (Nat.le_of_ble_eq_true rfl) (kw_101_kind _) dX7_advance_185 (fun H locs hG hL => ?_)
              refine lv_aload_n hx hb dX7_advance_188 rfl (lv_at hl 0 rfl) ?_
              refine lv_dup hx hb dX7_advance_189 rfl ?_
              refine k_gi (C := RX7) (T := TX7) (N := 5) (ci := 8) (v := x) S hG (fun w h => List.mem_cons_of_mem _ (List.mem_append_right _ h)) 101 (hlv.f (by decide) (by decide)) rfl rfl 3 (by decide) rfl (hts (.fieldLink RX7 22 "SwarmLine$Tape" "behind" "I") (by decide +kernel)) rfl (rfl) dX7_advance_190 ?_
              refine lv_iconst (v := 1) hx hb dX7_advance_193 (by decide) ?_
              refine lv_iadd hx hb dX7_advance_194 ?_
              refine k_pi (C := RX7) (T := TX7) (N := 5) (ci := 8) (ty := .int) S hG hL (fun w h => List.mem_cons_of_mem _ (List.mem_append_right _ h)) tyX7 tyX7_ok nmX7 101 (hlv.f (by decide) (by decide)) rfl rfl 3 (by decide) rfl (hts (.fieldLink RX7 22 "SwarmLine$Tape" "behind" "I") (by decide +kernel)) rfl (by decide +kernel) rfl rfl (Nat.le_of_ble_eq_true rfl) (kw_101_behind _) dX7_advance_195 (fun H locs hG hL => ?_)
              exact g_vret S.1 hr hlocks hG hL rfl (congr (congrArg (kJ ce0 ad K.2.2.1 cI cB cO cR) (by show _ = adB s r (kBg s r); rw [← hB2]; simp only [adB, kKd, kBh, eq_false (show ¬ tL s ≤ i by omega), eq_true c77, eq_true c136, ↓reduceIte, ← ex]; rw [ex, nI_1])) (by rfl)) dX7_advance_198
            ·
              refine lv_aload_n hx hb dX7_advance_139 rfl (lv_at hl 0 rfl) ?_
              refine lv_iconst (v := 2) hx hb dX7_advance_140 (by decide) ?_
              refine k_pi (C := RX7) (T := TX7) (N := 5) (ci := 8) (ty := .int) S hG hL (fun w h => List.mem_cons_of_mem _ (List.mem_append_right _ h)) tyX7 tyX7_ok nmX7 101 (hlv.f (by decide) (by decide)) rfl rfl 4 (by decide) rfl (hts (.fieldLink RX7 25 "SwarmLine$Tape" "kind" "I") (by decide +kernel)) rfl (by decide +kernel) rfl rfl (Nat.le_of_ble_eq_true rfl) (kw_101_kind _) dX7_advance_141 (fun H locs hG hL => ?_)
              have L4 : ∀ (n4 : Nat) (i4 : Nat) (x4 : Int32) (ex4 : x4 = nI i4) (hi4 : i4 ≤ tL s) (hn4 : tL s + 1 ≤ i4 + n4) (hF4 : den (r 60) (tL s) n4 i4 = den (r 60) (tL s) (1 + tL s) i), ∀ (H : Heap) (locs : List Loc), gW D Hb lv ad (kJ ce0 ad K.2.2.1 cI cB cO cR (upd (upd (upd (upd s 102 x) 101 x) 103 2) 102 x4) r) H → gL Hb locs → ∀ (ls : Array Slot), lv_has ls 1 [(0, .ref (ad 101))] → W p0 l e0 (headSpec wsX7_advance { frames := 1, cells := 0, slots := 0, locals := 20 }).room s0 m0 ([.ref (ad 101)] : List Value).toArray below meth c0 H locs 0 0 (MQ below (gQ D Hb lv ad none (kJ ce0 ad K.2.2.1 cI cB cO cR (adS s r) r)) ([.ref (ad 101)] : List Value).toArray s0 0 0 (gA Hb)) (F0 m0 144 ls []) := by
                intro n4
                induction n4 with
                | zero => intro i4 x4 ex4 hi4 hn4 hF4; exact absurd hn4 (by omega)
                | succ n4 ih4 =>
                  intro i4 x4 ex4 hi4 hn4 hF4 H locs hG hL ls hl
                  have hii4 : Int32.toNatClampNeg x4 = i4 := by { rw [ex4]; exact ix_nI (by omega) }
                  refine lv_aload_n hx hb dX7_advance_144 rfl (lv_at hl 0 rfl) ?_
                  refine k_gi (C := RX7) (T := TX7) (N := 5) (ci := 8) (v := x4) S hG (fun w h => List.mem_cons_of_mem _ (List.mem_append_right _ h)) 101 (hlv.f (by decide) (by decide)) rfl rfl 3 (by decide) rfl (hts (.fieldLink RX7 22 "SwarmLine$Tape" "behind" "I") (by decide +kernel)) rfl (rfl) dX7_advance_145 ?_
                  refine lv_aload_n hx hb dX7_advance_148 rfl (lv_at hl 0 rfl) ?_
                  refine k_gi (C := RX7) (T := TX7) (N := 5) (ci := 8) (v := s 61) S hG (fun w h => List.mem_cons_of_mem _ (List.mem_append_right _ h)) 101 (hlv.f (by decide) (by decide)) rfl rfl 1 (by decide) rfl (hts (.fieldLink RX7 15 "SwarmLine$Tape" "length" "I") (by decide +kernel)) rfl (rfl) dX7_advance_149 ?_
                  refine lv_icmp_ge (tgt := 198) hx hb dX7_advance_152 (by decide) (fun c152 => ?_) (fun c152 => ?_)
                  ·
                    have hge4 : tL s ≤ i4 := by { have q := c152; rw [t_le, ex4, nI_toInt (by omega)] at q; have q2 := t_ix hB.1; unfold tL at *; omega }
                    exact g_vret S.1 hr hlocks hG hL rfl (congr (congrArg (kJ ce0 ad K.2.2.1 cI cB cO cR) (by show _ = adB s r (kBg s r); rw [← hB2]; simp only [adB, kKd, kBh, eq_false (show ¬ tL s ≤ i by omega), eq_true c77, eq_false c136, ↓reduceIte, ← ex, ← hF4]; rw [ex4]; simp only [den, eq_true hge4, ↓reduceIte])) (by rfl)) dX7_advance_198
                  ·
                    have hlt4 : i4 < tL s := by { have q := c152; rw [t_le, ex4, nI_toInt (by omega)] at q; have q2 := t_ix hB.1; unfold tL at *; omega }
                    refine lv_aload_n hx hb dX7_advance_155 rfl (lv_at hl 0 rfl) ?_
                    refine k_ga (C := RX7) (T := TX7) (N := 5) (ci := 8) (v := .ref (ad 112)) S hG (fun w h => List.mem_cons_of_mem _ (List.mem_append_right _ h)) 101 (hlv.f (by decide) (by decide)) rfl rfl 0 (by decide) rfl (hts (.fieldLink RX7 11 "SwarmLine$Tape" "bytes" "[B") (by decide +kernel)) rfl dX7_advance_156 ?_
                    refine lv_aload_n hx hb dX7_advance_159 rfl (lv_at hl 0 rfl) ?_
                    refine k_gi (C := RX7) (T := TX7) (N := 5) (ci := 8) (v := x4) S hG (fun w h => List.mem_cons_of_mem _ (List.mem_append_right _ h)) 101 (hlv.f (by decide) (by decide)) rfl rfl 3 (by decide) rfl (hts (.fieldLink RX7 22 "SwarmLine$Tape" "behind" "I") (by decide +kernel)) rfl (rfl) dX7_advance_160 ?_
                    refine k_bld (j := i4) (v := (r 60 i4).toInt8.toInt32) S hG 112 (hlv.f (by decide) (by decide)) rfl hii4 (show vp_in x4 400 from by rw [ex4]; exact vp_in_i (by omega) (by omega)) (rfl) dX7_advance_163 ?_
                    refine m_callP (n := 1) (As := [.int ((r 60 i4).toInt8.toInt32)]) (rest := []) (st1 := .int (fDi (r 60 i4)) :: []) S.1 (c_X7_isDigit ((r 60 i4).toInt8.toInt32)) gX7_advance_X7_isDigit rfl (by decide +kernel) ⟨Nat.le_of_ble_eq_true rfl, Nat.le_of_ble_eq_true rfl⟩ rfl hl.1 rfl (Nat.le_of_ble_eq_true rfl) dX7_advance_164 ⟨Nat.zero_le _, Nat.zero_le _⟩ (by rw [(b8_x (hT i4 (by omega))).2.2]; rfl) ?_
                    refine lv_if_eq (tgt := 198) hx hb dX7_advance_167 (by decide) (fun c167 => ?_) (fun c167 => ?_)
                    ·
                      exact g_vret S.1 hr hlocks hG hL rfl (congr (congrArg (kJ ce0 ad K.2.2.1 cI cB cO cR) (by show _ = adB s r (kBg s r); rw [← hB2]; simp only [adB, kKd, kBh, eq_false (show ¬ tL s ≤ i by omega), eq_true c77, eq_false c136, ↓reduceIte, ← ex, ← hF4]; rw [ex4]; simp only [den, eq_false (show ¬ tL s ≤ i4 by omega), eq_true c167, ↓reduceIte])) (by rfl)) dX7_advance_198
                    ·
                      refine lv_aload_n hx hb dX7_advance_170 rfl (lv_at hl 0 rfl) ?_
                      refine lv_dup hx hb dX7_advance_171 rfl ?_
                      refine k_gi (C := RX7) (T := TX7) (N := 5) (ci := 8) (v := x4) S hG (fun w h => List.mem_cons_of_mem _ (List.mem_append_right _ h)) 101 (hlv.f (by decide) (by decide)) rfl rfl 3 (by decide) rfl (hts (.fieldLink RX7 22 "SwarmLine$Tape" "behind" "I") (by decide +kernel)) rfl (rfl) dX7_advance_172 ?_
                      refine lv_iconst (v := 1) hx hb dX7_advance_175 (by decide) ?_
                      refine lv_iadd hx hb dX7_advance_176 ?_
                      refine k_pi (C := RX7) (T := TX7) (N := 5) (ci := 8) (ty := .int) S hG hL (fun w h => List.mem_cons_of_mem _ (List.mem_append_right _ h)) tyX7 tyX7_ok nmX7 101 (hlv.f (by decide) (by decide)) rfl rfl 3 (by decide) rfl (hts (.fieldLink RX7 22 "SwarmLine$Tape" "behind" "I") (by decide +kernel)) rfl (by decide +kernel) rfl rfl (Nat.le_of_ble_eq_true rfl) ((kw_101_behind _).trans (congrArg (fun z => kJ ce0 ad K.2.2.1 cI cB cO cR z r) (upd_tw ..))) dX7_advance_177 (fun H locs hG hL => ?_)
                      refine lv_goto (tgt := 144) hx hb dX7_advance_180 (by decide) ?_
                      exact ih4  (i4 + 1) (x4 + 1) (by rw [ex4]; exact nI_1 i4) (hlt4) (by omega) (by rw [← hF4]; simp only [den, eq_false (show ¬ tL s ≤ i4 by omega), eq_false c167, ↓reduceIte]) _ _ hG hL _ (lv_sub hl [0] rfl)
              have hG : gW D Hb lv ad (kJ ce0 ad K.2.2.1 cI cB cO cR (upd (upd (upd (upd s 102 x) 101 x) 103 2) 102 x) r) H := by { have e9 : upd (upd (upd (upd s 102 x) 101 x) 103 2) 102 x = (upd (upd (upd s 102 x) 101 x) 103 2) := upd_id (upd (upd (upd s 102 x) 101 x) 103 2) 102; rw [e9]; exact hG }
              exact L4 (1 + tL s) i x (ex) (hi) (by omega) (rfl) _ _ hG hL _ (lv_sub hl [0] rfl)
          ·
            refine lv_aload_n hx hb dX7_advance_80 rfl (lv_at hl 0 rfl) ?_
            refine lv_iconst (v := 1) hx hb dX7_advance_81 (by decide) ?_
            refine k_pi (C := RX7) (T := TX7) (N := 5) (ci := 8) (ty := .int) S hG hL (fun w h => List.mem_cons_of_mem _ (List.mem_append_right _ h)) tyX7 tyX7_ok nmX7 101 (hlv.f (by decide) (by decide)) rfl rfl 4 (by decide) rfl (hts (.fieldLink RX7 25 "SwarmLine$Tape" "kind" "I") (by decide +kernel)) rfl (by decide +kernel) rfl rfl (Nat.le_of_ble_eq_true rfl) (kw_101_kind _) dX7_advance_82 (fun H locs hG hL => ?_)
            have L3 : ∀ (n3 : Nat) (i3 : Nat) (x3 : Int32) (ex3 : x3 = nI i3) (hi3 : i3 ≤ tL s) (hn3 : tL s + 1 ≤ i3 + n3) (hF3 : wen (r 60) (tL s) n3 i3 = wen (r 60) (tL s) (1 + tL s) i), ∀ (H : Heap) (locs : List Loc), gW D Hb lv ad (kJ ce0 ad K.2.2.1 cI cB cO cR (upd (upd (upd (upd s 102 x) 101 x) 103 1) 102 x3) r) H → gL Hb locs → ∀ (ls : Array Slot), lv_has ls 1 [(0, .ref (ad 101))] → W p0 l e0 (headSpec wsX7_advance { frames := 1, cells := 0, slots := 0, locals := 20 }).room s0 m0 ([.ref (ad 101)] : List Value).toArray below meth c0 H locs 0 0 (MQ below (gQ D Hb lv ad none (kJ ce0 ad K.2.2.1 cI cB cO cR (adS s r) r)) ([.ref (ad 101)] : List Value).toArray s0 0 0 (gA Hb)) (F0 m0 85 ls []) := by
              intro n3
              induction n3 with
              | zero => intro i3 x3 ex3 hi3 hn3 hF3; exact absurd hn3 (by omega)
              | succ n3 ih3 =>
                intro i3 x3 ex3 hi3 hn3 hF3 H locs hG hL ls hl
                have hii3 : Int32.toNatClampNeg x3 = i3 := by { rw [ex3]; exact ix_nI (by omega) }
                refine lv_aload_n hx hb dX7_advance_85 rfl (lv_at hl 0 rfl) ?_
                refine k_gi (C := RX7) (T := TX7) (N := 5) (ci := 8) (v := x3) S hG (fun w h => List.mem_cons_of_mem _ (List.mem_append_right _ h)) 101 (hlv.f (by decide) (by decide)) rfl rfl 3 (by decide) rfl (hts (.fieldLink RX7 22 "SwarmLine$Tape" "behind" "I") (by decide +kernel)) rfl (rfl) dX7_advance_86 ?_
                refine lv_aload_n hx hb dX7_advance_89 rfl (lv_at hl 0 rfl) ?_
                refine k_gi (C := RX7) (T := TX7) (N := 5) (ci := 8) (v := s 61) S hG (fun w h => List.mem_cons_of_mem _ (List.mem_append_right _ h)) 101 (hlv.f (by decide) (by decide)) rfl rfl 1 (by decide) rfl (hts (.fieldLink RX7 15 "SwarmLine$Tape" "length" "I") (by decide +kernel)) rfl (rfl) dX7_advance_90 ?_
                refine lv_icmp_ge (tgt := 198) hx hb dX7_advance_93 (by decide) (fun c93 => ?_) (fun c93 => ?_)
                ·
                  have hge3 : tL s ≤ i3 := by { have q := c93; rw [t_le, ex3, nI_toInt (by omega)] at q; have q2 := t_ix hB.1; unfold tL at *; omega }
                  exact g_vret S.1 hr hlocks hG hL rfl (congr (congrArg (kJ ce0 ad K.2.2.1 cI cB cO cR) (by show _ = adB s r (kBg s r); rw [← hB2]; simp only [adB, kKd, kBh, eq_false (show ¬ tL s ≤ i by omega), eq_false c77, ↓reduceIte, ← ex, ← hF3]; rw [ex3]; simp only [wen, eq_true hge3, ↓reduceIte])) (by rfl)) dX7_advance_198
                ·
                  have hlt3 : i3 < tL s := by { have q := c93; rw [t_le, ex3, nI_toInt (by omega)] at q; have q2 := t_ix hB.1; unfold tL at *; omega }
                  refine lv_aload_n hx hb dX7_advance_96 rfl (lv_at hl 0 rfl) ?_
                  refine k_ga (C := RX7) (T := TX7) (N := 5) (ci := 8) (v := .ref (ad 112)) S hG (fun w h => List.mem_cons_of_mem _ (List.mem_append_right _ h)) 101 (hlv.f (by decide) (by decide)) rfl rfl 0 (by decide) rfl (hts (.fieldLink RX7 11 "SwarmLine$Tape" "bytes" "[B") (by decide +kernel)) rfl dX7_advance_97 ?_
                  refine lv_aload_n hx hb dX7_advance_100 rfl (lv_at hl 0 rfl) ?_
                  refine k_gi (C := RX7) (T := TX7) (N := 5) (ci := 8) (v := x3) S hG (fun w h => List.mem_cons_of_mem _ (List.mem_append_right _ h)) 101 (hlv.f (by decide) (by decide)) rfl rfl 3 (by decide) rfl (hts (.fieldLink RX7 22 "SwarmLine$Tape" "behind" "I") (by decide +kernel)) rfl (rfl) dX7_advance_101 ?_
                  refine k_bld (j := i3) (v := (r 60 i3).toInt8.toInt32) S hG 112 (hlv.f (by decide) (by decide)) rfl hii3 (show vp_in x3 400 from by rw [ex3]; exact vp_in_i (by omega) (by omega)) (rfl) dX7_advance_104 ?_
                  refine m_callP (n := 1) (As := [.int ((r 60 i3).toInt8.toInt32)]) (rest := []) (st1 := .int (fLe (r 60 i3)) :: []) S.1 (c_X7_isLetter ((r 60 i3).toInt8.toInt32)) gX7_advance_X7_isLetter rfl (by decide +kernel) ⟨Nat.le_of_ble_eq_true rfl, Nat.le_of_ble_eq_true rfl⟩ rfl hl.1 rfl (Nat.le_of_ble_eq_true rfl) dX7_advance_105 ⟨Nat.zero_le _, Nat.zero_le _⟩ (by rw [(b8_x (hT i3 (by omega))).2.1]; rfl) ?_
                  refine lv_if_eq (tgt := 198) hx hb dX7_advance_108 (by decide) (fun c108 => ?_) (fun c108 => ?_)
                  ·
                    exact g_vret S.1 hr hlocks hG hL rfl (congr (congrArg (kJ ce0 ad K.2.2.1 cI cB cO cR) (by show _ = adB s r (kBg s r); rw [← hB2]; simp only [adB, kKd, kBh, eq_false (show ¬ tL s ≤ i by omega), eq_false c77, ↓reduceIte, ← ex, ← hF3]; rw [ex3]; simp only [wen, eq_false (show ¬ tL s ≤ i3 by omega), eq_true c108, ↓reduceIte])) (by rfl)) dX7_advance_198
                  ·
                    refine lv_aload_n hx hb dX7_advance_111 rfl (lv_at hl 0 rfl) ?_
                    refine lv_dup hx hb dX7_advance_112 rfl ?_
                    refine k_gi (C := RX7) (T := TX7) (N := 5) (ci := 8) (v := x3) S hG (fun w h => List.mem_cons_of_mem _ (List.mem_append_right _ h)) 101 (hlv.f (by decide) (by decide)) rfl rfl 3 (by decide) rfl (hts (.fieldLink RX7 22 "SwarmLine$Tape" "behind" "I") (by decide +kernel)) rfl (rfl) dX7_advance_113 ?_
                    refine lv_iconst (v := 1) hx hb dX7_advance_116 (by decide) ?_
                    refine lv_iadd hx hb dX7_advance_117 ?_
                    refine k_pi (C := RX7) (T := TX7) (N := 5) (ci := 8) (ty := .int) S hG hL (fun w h => List.mem_cons_of_mem _ (List.mem_append_right _ h)) tyX7 tyX7_ok nmX7 101 (hlv.f (by decide) (by decide)) rfl rfl 3 (by decide) rfl (hts (.fieldLink RX7 22 "SwarmLine$Tape" "behind" "I") (by decide +kernel)) rfl (by decide +kernel) rfl rfl (Nat.le_of_ble_eq_true rfl) ((kw_101_behind _).trans (congrArg (fun z => kJ ce0 ad K.2.2.1 cI cB cO cR z r) (upd_tw ..))) dX7_advance_118 (fun H locs hG hL => ?_)
                    refine lv_goto (tgt := 85) hx hb dX7_advance_121 (by decide) ?_
                    exact ih3  (i3 + 1) (x3 + 1) (by rw [ex3]; exact nI_1 i3) (hlt3) (by omega) (by rw [← hF3]; simp only [wen, eq_false (show ¬ tL s ≤ i3 by omega), eq_false c108, ↓reduceIte]) _ _ hG hL _ (lv_sub hl [0] rfl)
            have hG : gW D Hb lv ad (kJ ce0 ad K.2.2.1 cI cB cO cR (upd (upd (upd (upd s 102 x) 101 x) 103 1) 102 x) r) H := by { have e9 : upd (upd (upd (upd s 102 x) 101 x) 103 1) 102 x = (upd (upd (upd s 102 x) 101 x) 103 1) := upd_id (upd (upd (upd s 102 x) 101 x) 103 1) 102; rw [e9]; exact hG }
            exact L3 (1 + tL s) i x (ex) (hi) (by omega) (rfl) _ _ hG hL _ (lv_sub hl [0] rfl)
        ·
          have hge : tL s ≤ i := by { have q := c54; rw [t_lt, ex, nI_toInt (by omega)] at q; have q2 := t_ix hB.1; unfold tL at *; omega }
          refine lv_aload_n hx hb dX7_advance_57 rfl (lv_at hl 0 rfl) ?_
          refine lv_iconst (v := 0) hx hb dX7_advance_58 (by decide) ?_
          refine k_pi (C := RX7) (T := TX7) (N := 5) (ci := 8) (ty := .int) S hG hL (fun w h => List.mem_cons_of_mem _ (List.mem_append_right _ h)) tyX7 tyX7_ok nmX7 101 (hlv.f (by decide) (by decide)) rfl rfl 4 (by decide) rfl (hts (.fieldLink RX7 25 "SwarmLine$Tape" "kind" "I") (by decide +kernel)) rfl (by decide +kernel) rfl rfl (Nat.le_of_ble_eq_true rfl) (kw_101_kind _) dX7_advance_59 (fun H locs hG hL => ?_)
          refine lv_goto (tgt := 198) hx hb dX7_advance_62 (by decide) ?_
          exact g_vret S.1 hr hlocks hG hL rfl (congr (congrArg (kJ ce0 ad K.2.2.1 cI cB cO cR) (by show _ = adB s r (kBg s r); rw [← hB2]; simp only [adB, kKd, kBh, eq_true hge, ↓reduceIte, ← ex]; exact (upd_id _ 102).symm)) (by rfl)) dX7_advance_198
      refine lv_aload_n hx hb dX7_advance_0 rfl (lv_at hl 0 rfl) ?_
      refine k_gi (C := RX7) (T := TX7) (N := 5) (ci := 8) (v := x) S hG (fun w h => List.mem_cons_of_mem _ (List.mem_append_right _ h)) 101 (hlv.f (by decide) (by decide)) rfl rfl 3 (by decide) rfl (hts (.fieldLink RX7 22 "SwarmLine$Tape" "behind" "I") (by decide +kernel)) rfl (rfl) dX7_advance_1 ?_
      refine lv_aload_n hx hb dX7_advance_4 rfl (lv_at hl 0 rfl) ?_
      refine k_gi (C := RX7) (T := TX7) (N := 5) (ci := 8) (v := s 61) S hG (fun w h => List.mem_cons_of_mem _ (List.mem_append_right _ h)) 101 (hlv.f (by decide) (by decide)) rfl rfl 1 (by decide) rfl (hts (.fieldLink RX7 15 "SwarmLine$Tape" "length" "I") (by decide +kernel)) rfl (rfl) dX7_advance_5 ?_
      refine lv_icmp_ge (tgt := 38) hx hb dX7_advance_8 (by decide) (fun c8 => ?_) (fun c8 => ?_)
      ·
        have hge : tL s ≤ i := by { have q := c8; rw [t_le, ex, nI_toInt (by omega)] at q; have q2 := t_ix hB.1; unfold tL at *; omega }
        exact L2  i x (ex) (hi) (by rw [← hF]; simp only [skp, eq_true (show tL s ≤ i by omega), ↓reduceIte]) _ _ hG hL _ (lv_sub hl [0] rfl)
      ·
        have hlt : i < tL s := by { have q := c8; rw [t_le, ex, nI_toInt (by omega)] at q; have q2 := t_ix hB.1; unfold tL at *; omega }
        refine lv_aload_n hx hb dX7_advance_11 rfl (lv_at hl 0 rfl) ?_
        refine k_ga (C := RX7) (T := TX7) (N := 5) (ci := 8) (v := .ref (ad 112)) S hG (fun w h => List.mem_cons_of_mem _ (List.mem_append_right _ h)) 101 (hlv.f (by decide) (by decide)) rfl rfl 0 (by decide) rfl (hts (.fieldLink RX7 11 "SwarmLine$Tape" "bytes" "[B") (by decide +kernel)) rfl dX7_advance_12 ?_
        refine lv_aload_n hx hb dX7_advance_15 rfl (lv_at hl 0 rfl) ?_
        refine k_gi (C := RX7) (T := TX7) (N := 5) (ci := 8) (v := x) S hG (fun w h => List.mem_cons_of_mem _ (List.mem_append_right _ h)) 101 (hlv.f (by decide) (by decide)) rfl rfl 3 (by decide) rfl (hts (.fieldLink RX7 22 "SwarmLine$Tape" "behind" "I") (by decide +kernel)) rfl (rfl) dX7_advance_16 ?_
        refine k_bld (j := i) (v := (r 60 i).toInt8.toInt32) S hG 112 (hlv.f (by decide) (by decide)) rfl hii (show vp_in x 400 from by rw [ex]; exact vp_in_i (by omega) (by omega)) (rfl) dX7_advance_19 ?_
        refine lv_bipush (v := 32) hx hb dX7_advance_20 (by decide) ?_
        refine lv_icmp_ne (tgt := 38) hx hb dX7_advance_22 (by decide) (fun c22 => ?_) (fun c22 => ?_)
        ·
          exact L2  i x (ex) (hi) (by rw [← hF]; simp only [skp, eq_false (show ¬ tL s ≤ i by omega), eq_false (fun z => c22 ((b8_x (hT i (by omega))).1.mpr z)), ↓reduceIte]) _ _ hG hL _ (lv_sub hl [0] rfl)
        ·
          refine lv_aload_n hx hb dX7_advance_25 rfl (lv_at hl 0 rfl) ?_
          refine lv_dup hx hb dX7_advance_26 rfl ?_
          refine k_gi (C := RX7) (T := TX7) (N := 5) (ci := 8) (v := x) S hG (fun w h => List.mem_cons_of_mem _ (List.mem_append_right _ h)) 101 (hlv.f (by decide) (by decide)) rfl rfl 3 (by decide) rfl (hts (.fieldLink RX7 22 "SwarmLine$Tape" "behind" "I") (by decide +kernel)) rfl (rfl) dX7_advance_27 ?_
          refine lv_iconst (v := 1) hx hb dX7_advance_30 (by decide) ?_
          refine lv_iadd hx hb dX7_advance_31 ?_
          refine k_pi (C := RX7) (T := TX7) (N := 5) (ci := 8) (ty := .int) S hG hL (fun w h => List.mem_cons_of_mem _ (List.mem_append_right _ h)) tyX7 tyX7_ok nmX7 101 (hlv.f (by decide) (by decide)) rfl rfl 3 (by decide) rfl (hts (.fieldLink RX7 22 "SwarmLine$Tape" "behind" "I") (by decide +kernel)) rfl (by decide +kernel) rfl rfl (Nat.le_of_ble_eq_true rfl) ((kw_101_behind _).trans (congrArg (fun z => kJ ce0 ad K.2.2.1 cI cB cO cR z r) (upd_tw ..))) dX7_advance_32 (fun H locs hG hL => ?_)
          refine lv_goto (tgt := 0) hx hb dX7_advance_35 (by decide) ?_
          exact ih  (i + 1) (x + 1) (by rw [ex]; exact nI_1 i) (hlt) (by omega) (by rw [← hF]; simp only [skp, eq_false (show ¬ tL s ≤ i by omega), eq_true ((b8_x (hT i (by omega))).1.mp c22), ↓reduceIte]) _ _ hG hL _ (lv_sub hl [0] rfl)
  have L2 : ∀ (i : Nat) (x : Int32) (ex : x = nI i) (hi : i ≤ tL s) (hB2 : i = kBg s r), ∀ (H : Heap) (locs : List Loc), gW D Hb lv ad (kJ ce0 ad K.2.2.1 cI cB cO cR (upd s 102 x) r) H → gL Hb locs → ∀ (ls : Array Slot), lv_has ls 1 [(0, .ref (ad 101))] → W p0 l e0 (headSpec wsX7_advance { frames := 1, cells := 0, slots := 0, locals := 20 }).room s0 m0 ([.ref (ad 101)] : List Value).toArray below meth c0 H locs 0 0 (MQ below (gQ D Hb lv ad none (kJ ce0 ad K.2.2.1 cI cB cO cR (adS s r) r)) ([.ref (ad 101)] : List Value).toArray s0 0 0 (gA Hb)) (F0 m0 38 ls []) := by
    intro i x ex hi hB2 H locs hG hL ls hl
    have hii : Int32.toNatClampNeg x = i := by { rw [ex]; exact ix_nI (by omega) }
    refine lv_aload_n hx hb dX7_advance_38 rfl (lv_at hl 0 rfl) ?_
    refine lv_aload_n hx hb dX7_advance_39 rfl (lv_at hl 0 rfl) ?_
    refine k_gi (C := RX7) (T := TX7) (N := 5) (ci := 8) (v := x) S hG (fun w h => List.mem_cons_of_mem _ (List.mem_append_right _ h)) 101 (hlv.f (by decide) (by decide)) rfl rfl 3 (by decide) rfl (hts (.fieldLink RX7 22 "SwarmLine$Tape" "behind" "I") (by decide +kernel)) rfl (rfl) dX7_advance_40 ?_
    refine k_pi (C := RX7) (T := TX7) (N := 5) (ci := 8) (ty := .int) S hG hL (fun w h => List.mem_cons_of_mem _ (List.mem_append_right _ h)) tyX7 tyX7_ok nmX7 101 (hlv.f (by decide) (by decide)) rfl rfl 2 (by decide) rfl (hts (.fieldLink RX7 19 "SwarmLine$Tape" "begin" "I") (by decide +kernel)) rfl (by decide +kernel) rfl rfl (Nat.le_of_ble_eq_true rfl) (kw_101_begin _) dX7_advance_43 (fun H locs hG hL => ?_)
    refine lv_aload_n hx hb dX7_advance_46 rfl (lv_at hl 0 rfl) ?_
    refine k_gi (C := RX7) (T := TX7) (N := 5) (ci := 8) (v := x) S hG (fun w h => List.mem_cons_of_mem _ (List.mem_append_right _ h)) 101 (hlv.f (by decide) (by decide)) rfl rfl 2 (by decide) rfl (hts (.fieldLink RX7 19 "SwarmLine$Tape" "begin" "I") (by decide +kernel)) rfl (rfl) dX7_advance_47 ?_
    refine lv_aload_n hx hb dX7_advance_50 rfl (lv_at hl 0 rfl) ?_
    refine k_gi (C := RX7) (T := TX7) (N := 5) (ci := 8) (v := s 61) S hG (fun w h => List.mem_cons_of_mem _ (List.mem_append_right _ h)) 101 (hlv.f (by decide) (by decide)) rfl rfl 1 (by decide) rfl (hts (.fieldLink RX7 15 "SwarmLine$Tape" "length" "I") (by decide +kernel)) rfl (rfl) dX7_advance_51 ?_
    refine lv_icmp_lt (tgt := 65) hx hb dX7_advance_54 (by decide) (fun c54 => ?_) (fun c54 => ?_)
    ·
      have hlt : i < tL s := by { have q := c54; rw [t_lt, ex, nI_toInt (by omega)] at q; have q2 := t_ix hB.1; unfold tL at *; omega }
      refine lv_aload_n hx hb dX7_advance_65 rfl (lv_at hl 0 rfl) ?_
      refine k_ga (C := RX7) (T := TX7) (N := 5) (ci := 8) (v := .ref (ad 112)) S hG (fun w h => List.mem_cons_of_mem _ (List.mem_append_right _ h)) 101 (hlv.f (by decide) (by decide)) rfl rfl 0 (by decide) rfl (hts (.fieldLink RX7 11 "SwarmLine$Tape" "bytes" "[B") (by decide +kernel)) rfl dX7_advance_66 ?_
      refine lv_aload_n hx hb dX7_advance_69 rfl (lv_at hl 0 rfl) ?_
      refine k_gi (C := RX7) (T := TX7) (N := 5) (ci := 8) (v := x) S hG (fun w h => List.mem_cons_of_mem _ (List.mem_append_right _ h)) 101 (hlv.f (by decide) (by decide)) rfl rfl 2 (by decide) rfl (hts (.fieldLink RX7 19 "SwarmLine$Tape" "begin" "I") (by decide +kernel)) rfl (rfl) dX7_advance_70 ?_
      refine k_bld (j := i) (v := (r 60 i).toInt8.toInt32) S hG 112 (hlv.f (by decide) (by decide)) rfl hii (show vp_in x 400 from by rw [ex]; exact vp_in_i (by omega) (by omega)) (rfl) dX7_advance_73 ?_
      refine m_callP (n := 1) (As := [.int ((r 60 i).toInt8.toInt32)]) (rest := []) (st1 := .int (fLe (r 60 i)) :: []) S.1 (c_X7_isLetter ((r 60 i).toInt8.toInt32)) gX7_advance_X7_isLetter rfl (by decide +kernel) ⟨Nat.le_of_ble_eq_true rfl, Nat.le_of_ble_eq_true rfl⟩ rfl hl.1 rfl (Nat.le_of_ble_eq_true rfl) dX7_advance_74 ⟨Nat.zero_le _, Nat.zero_le _⟩ (by rw [(b8_x (hT i (by omega))).2.1]; rfl) ?_
      refine lv_if_eq (tgt := 124) hx hb dX7_advance_77 (by decide) (fun c77 => ?_) (fun c77 => ?_)
      ·
        refine lv_aload_n hx hb dX7_advance_124 rfl (lv_at hl 0 rfl) ?_
        refine k_ga (C := RX7) (T := TX7) (N := 5) (ci := 8) (v := .ref (ad 112)) S hG (fun w h => List.mem_cons_of_mem _ (List.mem_append_right _ h)) 101 (hlv.f (by decide) (by decide)) rfl rfl 0 (by decide) rfl (hts (.fieldLink RX7 11 "SwarmLine$Tape" "bytes" "[B") (by decide +kernel)) rfl dX7_advance_125 ?_
        refine lv_aload_n hx hb dX7_advance_128 rfl (lv_at hl 0 rfl) ?_
        refine k_gi (C := RX7) (T := TX7) (N := 5) (ci := 8) (v := x) S hG (fun w h => List.mem_cons_of_mem _ (List.mem_append_right _ h)) 101 (hlv.f (by decide) (by decide)) rfl rfl 2 (by decide) rfl (hts (.fieldLink RX7 19 "SwarmLine$Tape" "begin" "I") (by decide +kernel)) rfl (rfl) dX7_advance_129 ?_
        refine k_bld (j := i) (v := (r 60 i).toInt8.toInt32) S hG 112 (hlv.f (by decide) (by decide)) rfl hii (show vp_in x 400 from by rw [ex]; exact vp_in_i (by omega) (by omega)) (rfl) dX7_advance_132 ?_
        refine m_callP (n := 1) (As := [.int ((r 60 i).toInt8.toInt32)]) (rest := []) (st1 := .int (fDi (r 60 i)) :: []) S.1 (c_X7_isDigit ((r 60 i).toInt8.toInt32)) gX7_advance_X7_isDigit rfl (by decide +kernel) ⟨Nat.le_of_ble_eq_true rfl, Nat.le_of_ble_eq_true rfl⟩ rfl hl.1 rfl (Nat.le_of_ble_eq_true rfl) dX7_advance_133 ⟨Nat.zero_le _, Nat.zero_le _⟩ (by rw [(b8_x (hT i (by omega))).2.2]; rfl) ?_
        refine lv_if_eq (tgt := 183) hx hb dX7_advance_136 (by decide) (fun c136 => ?_) (fun c136 => ?_)
        ·
          refine lv_aload_n hx hb dX7_advance_183 rfl (lv_at hl 0 rfl) ?_
          refine lv_iconst (v := 3) hx hb dX7_advance_184 (by decide) ?_
          refine k_pi (C := RX7) (T := TX7) (N := 5) (ci := 8) (ty := .int) S hG hL (fun w h => List.mem_cons_of_mem _ (List.mem_append_right _ h)) tyX7 tyX7_ok nmX7 101 (hlv.f (by decide) (by decide)) rfl rfl 4 (by decide) rfl (hts (.fieldLink RX7 25 "SwarmLine$Tape" "kind" "I") (by decide +kernel)) rfl (by decide +kernel) rfl rfl (Nat.le_of_ble_eq_true rfl) (kw_101_kind _) dX7_advance_185 (fun H locs hG hL => ?_)
          refine lv_aload_n hx hb dX7_advance_188 rfl (lv_at hl 0 rfl) ?_
          refine lv_dup hx hb dX7_advance_189 rfl ?_
          refine k_gi (C := RX7) (T := TX7) (N := 5) (ci := 8) (v := x) S hG (fun w h => List.mem_cons_of_mem _ (List.mem_append_right _ h)) 101 (hlv.f (by decide) (by decide)) rfl rfl 3 (by decide) rfl (hts (.fieldLink RX7 22 "SwarmLine$Tape" "behind" "I") (by decide +kernel)) rfl (rfl) dX7_advance_190 ?_
          refine lv_iconst (v := 1) hx hb dX7_advance_193 (by decide) ?_
          refine lv_iadd hx hb dX7_advance_194 ?_
          refine k_pi (C := RX7) (T := TX7) (N := 5) (ci := 8) (ty := .int) S hG hL (fun w h => List.mem_cons_of_mem _ (List.mem_append_right _ h)) tyX7 tyX7_ok nmX7 101 (hlv.f (by decide) (by decide)) rfl rfl 3 (by decide) rfl (hts (.fieldLink RX7 22 "SwarmLine$Tape" "behind" "I") (by decide +kernel)) rfl (by decide +kernel) rfl rfl (Nat.le_of_ble_eq_true rfl) (kw_101_behind _) dX7_advance_195 (fun H locs hG hL => ?_)
          exact g_vret S.1 hr hlocks hG hL rfl (congr (congrArg (kJ ce0 ad K.2.2.1 cI cB cO cR) (by show _ = adB s r (kBg s r); rw [← hB2]; simp only [adB, kKd, kBh, eq_false (show ¬ tL s ≤ i by omega), eq_true c77, eq_true c136, ↓reduceIte, ← ex]; rw [ex, nI_1])) (by rfl)) dX7_advance_198
        ·
          refine lv_aload_n hx hb dX7_advance_139 rfl (lv_at hl 0 rfl) ?_
          refine lv_iconst (v := 2) hx hb dX7_advance_140 (by decide) ?_
          refine k_pi (C := RX7) (T := TX7) (N := 5) (ci := 8) (ty := .int) S hG hL (fun w h => List.mem_cons_of_mem _ (List.mem_append_right _ h)) tyX7 tyX7_ok nmX7 101 (hlv.f (by decide) (by decide)) rfl rfl 4 (by decide) rfl (hts (.fieldLink RX7 25 "SwarmLine$Tape" "kind" "I") (by decide +kernel)) rfl (by decide +kernel) rfl rfl (Nat.le_of_ble_eq_true rfl) (kw_101_kind _) dX7_advance_141 (fun H locs hG hL => ?_)
          have L4 : ∀ (n4 : Nat) (i4 : Nat) (x4 : Int32) (ex4 : x4 = nI i4) (hi4 : i4 ≤ tL s) (hn4 : tL s + 1 ≤ i4 + n4) (hF4 : den (r 60) (tL s) n4 i4 = den (r 60) (tL s) (1 + tL s) i), ∀ (H : Heap) (locs : List Loc), gW D Hb lv ad (kJ ce0 ad K.2.2.1 cI cB cO cR (upd (upd (upd (upd s 102 x) 101 x) 103 2) 102 x4) r) H → gL Hb locs → ∀ (ls : Array Slot), lv_has ls 1 [(0, .ref (ad 101))] → W p0 l e0 (headSpec wsX7_advance { frames := 1, cells := 0, slots := 0, locals := 20 }).room s0 m0 ([.ref (ad 101)] : List Value).toArray below meth c0 H locs 0 0 (MQ below (gQ D Hb lv ad none (kJ ce0 ad K.2.2.1 cI cB cO cR (adS s r) r)) ([.ref (ad 101)] : List Value).toArray s0 0 0 (gA Hb)) (F0 m0 144 ls []) := by
            intro n4
            induction n4 with
            | zero => intro i4 x4 ex4 hi4 hn4 hF4; exact absurd hn4 (by omega)
            | succ n4 ih4 =>
              intro i4 x4 ex4 hi4 hn4 hF4 H locs hG hL ls hl
              have hii4 : Int32.toNatClampNeg x4 = i4 := by { rw [ex4]; exact ix_nI (by omega) }
              refine lv_aload_n hx hb dX7_advance_144 rfl (lv_at hl 0 rfl) ?_
              refine k_gi (C := RX7) (T := TX7) (N := 5) (ci := 8) (v := x4) S hG (fun w h => List.mem_cons_of_mem _ (List.mem_append_right _ h)) 101 (hlv.f (by decide) (by decide)) rfl rfl 3 (by decide) rfl (hts (.fieldLink RX7 22 "SwarmLine$Tape" "behind" "I") (by decide +kernel)) rfl (rfl) dX7_advance_145 ?_
              refine lv_aload_n hx hb dX7_advance_148 rfl (lv_at hl 0 rfl) ?_
              refine k_gi (C := RX7) (T := TX7) (N := 5) (ci := 8) (v := s 61) S hG (fun w h => List.mem_cons_of_mem _ (List.mem_append_right _ h)) 101 (hlv.f (by decide) (by decide)) rfl rfl 1 (by decide) rfl (hts (.fieldLink RX7 15 "SwarmLine$Tape" "length" "I") (by decide +kernel)) rfl (rfl) dX7_advance_149 ?_
              refine lv_icmp_ge (tgt := 198) hx hb dX7_advance_152 (by decide) (fun c152 => ?_) (fun c152 => ?_)
              ·
                have hge4 : tL s ≤ i4 := by { have q := c152; rw [t_le, ex4, nI_toInt (by omega)] at q; have q2 := t_ix hB.1; unfold tL at *; omega }
                exact g_vret S.1 hr hlocks hG hL rfl (congr (congrArg (kJ ce0 ad K.2.2.1 cI cB cO cR) (by show _ = adB s r (kBg s r); rw [← hB2]; simp only [adB, kKd, kBh, eq_false (show ¬ tL s ≤ i by omega), eq_true c77, eq_false c136, ↓reduceIte, ← ex, ← hF4]; rw [ex4]; simp only [den, eq_true hge4, ↓reduceIte])) (by rfl)) dX7_advance_198
              ·
                have hlt4 : i4 < tL s := by { have q := c152; rw [t_le, ex4, nI_toInt (by omega)] at q; have q2 := t_ix hB.1; unfold tL at *; omega }
                refine lv_aload_n hx hb dX7_advance_155 rfl (lv_at hl 0 rfl) ?_
                refine k_ga (C := RX7) (T := TX7) (N := 5) (ci := 8) (v := .ref (ad 112)) S hG (fun w h => List.mem_cons_of_mem _ (List.mem_append_right _ h)) 101 (hlv.f (by decide) (by decide)) rfl rfl 0 (by decide) rfl (hts (.fieldLink RX7 11 "SwarmLine$Tape" "bytes" "[B") (by decide +kernel)) rfl dX7_advance_156 ?_
                refine lv_aload_n hx hb dX7_advance_159 rfl (lv_at hl 0 rfl) ?_
                refine k_gi (C := RX7) (T := TX7) (N := 5) (ci := 8) (v := x4) S hG (fun w h => List.mem_cons_of_mem _ (List.mem_append_right _ h)) 101 (hlv.f (by decide) (by decide)) rfl rfl 3 (by decide) rfl (hts (.fieldLink RX7 22 "SwarmLine$Tape" "behind" "I") (by decide +kernel)) rfl (rfl) dX7_advance_160 ?_
                refine k_bld (j := i4) (v := (r 60 i4).toInt8.toInt32) S hG 112 (hlv.f (by decide) (by decide)) rfl hii4 (show vp_in x4 400 from by rw [ex4]; exact vp_in_i (by omega) (by omega)) (rfl) dX7_advance_163 ?_
                refine m_callP (n := 1) (As := [.int ((r 60 i4).toInt8.toInt32)]) (rest := []) (st1 := .int (fDi (r 60 i4)) :: []) S.1 (c_X7_isDigit ((r 60 i4).toInt8.toInt32)) gX7_advance_X7_isDigit rfl (by decide +kernel) ⟨Nat.le_of_ble_eq_true rfl, Nat.le_of_ble_eq_true rfl⟩ rfl hl.1 rfl (Nat.le_of_ble_eq_true rfl) dX7_advance_164 ⟨Nat.zero_le _, Nat.zero_le _⟩ (by rw [(b8_x (hT i4 (by omega))).2.2]; rfl) ?_
                refine lv_if_eq (tgt := 198) hx hb dX7_advance_167 (by decide) (fun c167 => ?_) (fun c167 => ?_)
                ·
                  exact g_vret S.1 hr hlocks hG hL rfl (congr (congrArg (kJ ce0 ad K.2.2.1 cI cB cO cR) (by show _ = adB s r (kBg s r); rw [← hB2]; simp only [adB, kKd, kBh, eq_false (show ¬ tL s ≤ i by omega), eq_true c77, eq_false c136, ↓reduceIte, ← ex, ← hF4]; rw [ex4]; simp only [den, eq_false (show ¬ tL s ≤ i4 by omega), eq_true c167, ↓reduceIte])) (by rfl)) dX7_advance_198
                ·
                  refine lv_aload_n hx hb dX7_advance_170 rfl (lv_at hl 0 rfl) ?_
                  refine lv_dup hx hb dX7_advance_171 rfl ?_
                  refine k_gi (C := RX7) (T := TX7) (N := 5) (ci := 8) (v := x4) S hG (fun w h => List.mem_cons_of_mem _ (List.mem_append_right _ h)) 101 (hlv.f (by decide) (by decide)) rfl rfl 3 (by decide) rfl (hts (.fieldLink RX7 22 "SwarmLine$Tape" "behind" "I") (by decide +kernel)) rfl (rfl) dX7_advance_172 ?_
                  refine lv_iconst (v := 1) hx hb dX7_advance_175 (by decide) ?_
                  refine lv_iadd hx hb dX7_advance_176 ?_
                  refine k_pi (C := RX7) (T := TX7) (N := 5) (ci := 8) (ty := .int) S hG hL (fun w h => List.mem_cons_of_mem _ (List.mem_append_right _ h)) tyX7 tyX7_ok nmX7 101 (hlv.f (by decide) (by decide)) rfl rfl 3 (by decide) rfl (hts (.fieldLink RX7 22 "SwarmLine$Tape" "behind" "I") (by decide +kernel)) rfl (by decide +kernel) rfl rfl (Nat.le_of_ble_eq_true rfl) ((kw_101_behind _).trans (congrArg (fun z => kJ ce0 ad K.2.2.1 cI cB cO cR z r) (upd_tw ..))) dX7_advance_177 (fun H locs hG hL => ?_)
                  refine lv_goto (tgt := 144) hx hb dX7_advance_180 (by decide) ?_
                  exact ih4  (i4 + 1) (x4 + 1) (by rw [ex4]; exact nI_1 i4) (hlt4) (by omega) (by rw [← hF4]; simp only [den, eq_false (show ¬ tL s ≤ i4 by omega), eq_false c167, ↓reduceIte]) _ _ hG hL _ (lv_sub hl [0] rfl)
          have hG : gW D Hb lv ad (kJ ce0 ad K.2.2.1 cI cB cO cR (upd (upd (upd (upd s 102 x) 101 x) 103 2) 102 x) r) H := by { have e9 : upd (upd (upd (upd s 102 x) 101 x) 103 2) 102 x = (upd (upd (upd s 102 x) 101 x) 103 2) := upd_id (upd (upd (upd s 102 x) 101 x) 103 2) 102; rw [e9]; exact hG }
          exact L4 (1 + tL s) i x (ex) (hi) (by omega) (rfl) _ _ hG hL _ (lv_sub hl [0] rfl)
      ·
        refine lv_aload_n hx hb dX7_advance_80 rfl (lv_at hl 0 rfl) ?_
        refine lv_iconst (v := 1) hx hb dX7_advance_81 (by decide) ?_
        refine k_pi (C := RX7) (T := TX7) (N := 5) (ci := 8) (ty := .int) S hG hL (fun w h => List.mem_cons_of_mem _ (List.mem_append_right _ h)) tyX7 tyX7_ok nmX7 101 (hlv.f (by decide) (by decide)) rfl rfl 4 (by decide) rfl (hts (.fieldLink RX7 25 "SwarmLine$Tape" "kind" "I") (by decide +kernel)) rfl (by decide +kernel) rfl rfl (Nat.le_of_ble_eq_true rfl) (kw_101_kind _) dX7_advance_82 (fun H locs hG hL => ?_)
        have L3 : ∀ (n3 : Nat) (i3 : Nat) (x3 : Int32) (ex3 : x3 = nI i3) (hi3 : i3 ≤ tL s) (hn3 : tL s + 1 ≤ i3 + n3) (hF3 : wen (r 60) (tL s) n3 i3 = wen (r 60) (tL s) (1 + tL s) i), ∀ (H : Heap) (locs : List Loc), gW D Hb lv ad (kJ ce0 ad K.2.2.1 cI cB cO cR (upd (upd (upd (upd s 102 x) 101 x) 103 1) 102 x3) r) H → gL Hb locs → ∀ (ls : Array Slot), lv_has ls 1 [(0, .ref (ad 101))] → W p0 l e0 (headSpec wsX7_advance { frames := 1, cells := 0, slots := 0, locals := 20 }).room s0 m0 ([.ref (ad 101)] : List Value).toArray below meth c0 H locs 0 0 (MQ below (gQ D Hb lv ad none (kJ ce0 ad K.2.2.1 cI cB cO cR (adS s r) r)) ([.ref (ad 101)] : List Value).toArray s0 0 0 (gA Hb)) (F0 m0 85 ls []) := by
          intro n3
          induction n3 with
          | zero => intro i3 x3 ex3 hi3 hn3 hF3; exact absurd hn3 (by omega)
          | succ n3 ih3 =>
            intro i3 x3 ex3 hi3 hn3 hF3 H locs hG hL ls hl
            have hii3 : Int32.toNatClampNeg x3 = i3 := by { rw [ex3]; exact ix_nI (by omega) }
            refine lv_aload_n hx hb dX7_advance_85 rfl (lv_at hl 0 rfl) ?_
            refine k_gi (C := RX7) (T := TX7) (N := 5) (ci := 8) (v := x3) S hG (fun w h => List.mem_cons_of_mem _ (List.mem_append_right _ h)) 101 (hlv.f (by decide) (by decide)) rfl rfl 3 (by decide) rfl (hts (.fieldLink RX7 22 "SwarmLine$Tape" "behind" "I") (by decide +kernel)) rfl (rfl) dX7_advance_86 ?_
            refine lv_aload_n hx hb dX7_advance_89 rfl (lv_at hl 0 rfl) ?_
            refine k_gi (C := RX7) (T := TX7) (N := 5) (ci := 8) (v := s 61) S hG (fun w h => List.mem_cons_of_mem _ (List.mem_append_right _ h)) 101 (hlv.f (by decide) (by decide)) rfl rfl 1 (by decide) rfl (hts (.fieldLink RX7 15 "SwarmLine$Tape" "length" "I") (by decide +kernel)) rfl (rfl) dX7_advance_90 ?_
            refine lv_icmp_ge (tgt := 198) hx hb dX7_advance_93 (by decide) (fun c93 => ?_) (fun c93 => ?_)
            ·
              have hge3 : tL s ≤ i3 := by { have q := c93; rw [t_le, ex3, nI_toInt (by omega)] at q; have q2 := t_ix hB.1; unfold tL at *; omega }
              exact g_vret S.1 hr hlocks hG hL rfl (congr (congrArg (kJ ce0 ad K.2.2.1 cI cB cO cR) (by show _ = adB s r (kBg s r); rw [← hB2]; simp only [adB, kKd, kBh, eq_false (show ¬ tL s ≤ i by omega), eq_false c77, ↓reduceIte, ← ex, ← hF3]; rw [ex3]; simp only [wen, eq_true hge3, ↓reduceIte])) (by rfl)) dX7_advance_198
            ·
              have hlt3 : i3 < tL s := by { have q := c93; rw [t_le, ex3, nI_toInt (by omega)] at q; have q2 := t_ix hB.1; unfold tL at *; omega }
              refine lv_aload_n hx hb dX7_advance_96 rfl (lv_at hl 0 rfl) ?_
              refine k_ga (C := RX7) (T := TX7) (N := 5) (ci := 8) (v := .ref (ad 112)) S hG (fun w h => List.mem_cons_of_mem _ (List.mem_append_right _ h)) 101 (hlv.f (by decide) (by decide)) rfl rfl 0 (by decide) rfl (hts (.fieldLink RX7 11 "SwarmLine$Tape" "bytes" "[B") (by decide +kernel)) rfl dX7_advance_97 ?_
              refine lv_aload_n hx hb dX7_advance_100 rfl (lv_at hl 0 rfl) ?_
              refine k_gi (C := RX7) (T := TX7) (N := 5) (ci := 8) (v := x3) S hG (fun w h => List.mem_cons_of_mem _ (List.mem_append_right _ h)) 101 (hlv.f (by decide) (by decide)) rfl rfl 3 (by decide) rfl (hts (.fieldLink RX7 22 "SwarmLine$Tape" "behind" "I") (by decide +kernel)) rfl (rfl) dX7_advance_101 ?_
              refine k_bld (j := i3) (v := (r 60 i3).toInt8.toInt32) S hG 112 (hlv.f (by decide) (by decide)) rfl hii3 (show vp_in x3 400 from by rw [ex3]; exact vp_in_i (by omega) (by omega)) (rfl) dX7_advance_104 ?_
              refine m_callP (n := 1) (As := [.int ((r 60 i3).toInt8.toInt32)]) (rest := []) (st1 := .int (fLe (r 60 i3)) :: []) S.1 (c_X7_isLetter ((r 60 i3).toInt8.toInt32)) gX7_advance_X7_isLetter rfl (by decide +kernel) ⟨Nat.le_of_ble_eq_true rfl, Nat.le_of_ble_eq_true rfl⟩ rfl hl.1 rfl (Nat.le_of_ble_eq_true rfl) dX7_advance_105 ⟨Nat.zero_le _, Nat.zero_le _⟩ (by rw [(b8_x (hT i3 (by omega))).2.1]; rfl) ?_
              refine lv_if_eq (tgt := 198) hx hb dX7_advance_108 (by decide) (fun c108 => ?_) (fun c108 => ?_)
              ·
                exact g_vret S.1 hr hlocks hG hL rfl (congr (congrArg (kJ ce0 ad K.2.2.1 cI cB cO cR) (by show _ = adB s r (kBg s r); rw [← hB2]; simp only [adB, kKd, kBh, eq_false (show ¬ tL s ≤ i by omega), eq_false c77, ↓reduceIte, ← ex, ← hF3]; rw [ex3]; simp only [wen, eq_false (show ¬ tL s ≤ i3 by omega), eq_true c108, ↓reduceIte])) (by rfl)) dX7_advance_198
              ·
                refine lv_aload_n hx hb dX7_advance_111 rfl (lv_at hl 0 rfl) ?_
                refine lv_dup hx hb dX7_advance_112 rfl ?_
                refine k_gi (C := RX7) (T := TX7) (N := 5) (ci := 8) (v := x3) S hG (fun w h => List.mem_cons_of_mem _ (List.mem_append_right _ h)) 101 (hlv.f (by decide) (by decide)) rfl rfl 3 (by decide) rfl (hts (.fieldLink RX7 22 "SwarmLine$Tape" "behind" "I") (by decide +kernel)) rfl (rfl) dX7_advance_113 ?_
                refine lv_iconst (v := 1) hx hb dX7_advance_116 (by decide) ?_
                refine lv_iadd hx hb dX7_advance_117 ?_
                refine k_pi (C := RX7) (T := TX7) (N := 5) (ci := 8) (ty := .int) S hG hL (fun w h => List.mem_cons_of_mem _ (List.mem_append_right _ h)) tyX7 tyX7_ok nmX7 101 (hlv.f (by decide) (by decide)) rfl rfl 3 (by decide) rfl (hts (.fieldLink RX7 22 "SwarmLine$Tape" "behind" "I") (by decide +kernel)) rfl (by decide +kernel) rfl rfl (Nat.le_of_ble_eq_true rfl) ((kw_101_behind _).trans (congrArg (fun z => kJ ce0 ad K.2.2.1 cI cB cO cR z r) (upd_tw ..))) dX7_advance_118 (fun H locs hG hL => ?_)
                refine lv_goto (tgt := 85) hx hb dX7_advance_121 (by decide) ?_
                exact ih3  (i3 + 1) (x3 + 1) (by rw [ex3]; exact nI_1 i3) (hlt3) (by omega) (by rw [← hF3]; simp only [wen, eq_false (show ¬ tL s ≤ i3 by omega), eq_false c108, ↓reduceIte]) _ _ hG hL _ (lv_sub hl [0] rfl)
        have hG : gW D Hb lv ad (kJ ce0 ad K.2.2.1 cI cB cO cR (upd (upd (upd (upd s 102 x) 101 x) 103 1) 102 x) r) H := by { have e9 : upd (upd (upd (upd s 102 x) 101 x) 103 1) 102 x = (upd (upd (upd s 102 x) 101 x) 103 1) := upd_id (upd (upd (upd s 102 x) 101 x) 103 1) 102; rw [e9]; exact hG }
        exact L3 (1 + tL s) i x (ex) (hi) (by omega) (rfl) _ _ hG hL _ (lv_sub hl [0] rfl)
    ·
      have hge : tL s ≤ i := by { have q := c54; rw [t_lt, ex, nI_toInt (by omega)] at q; have q2 := t_ix hB.1; unfold tL at *; omega }
      refine lv_aload_n hx hb dX7_advance_57 rfl (lv_at hl 0 rfl) ?_
      refine lv_iconst (v := 0) hx hb dX7_advance_58 (by decide) ?_
      refine k_pi (C := RX7) (T := TX7) (N := 5) (ci := 8) (ty := .int) S hG hL (fun w h => List.mem_cons_of_mem _ (List.mem_append_right _ h)) tyX7 tyX7_ok nmX7 101 (hlv.f (by decide) (by decide)) rfl rfl 4 (by decide) rfl (hts (.fieldLink RX7 25 "SwarmLine$Tape" "kind" "I") (by decide +kernel)) rfl (by decide +kernel) rfl rfl (Nat.le_of_ble_eq_true rfl) (kw_101_kind _) dX7_advance_59 (fun H locs hG hL => ?_)
      refine lv_goto (tgt := 198) hx hb dX7_advance_62 (by decide) ?_
      exact g_vret S.1 hr hlocks hG hL rfl (congr (congrArg (kJ ce0 ad K.2.2.1 cI cB cO cR) (by show _ = adB s r (kBg s r); rw [← hB2]; simp only [adB, kKd, kBh, eq_true hge, ↓reduceIte, ← ex]; exact (upd_id _ 102).symm)) (by rfl)) dX7_advance_198
  have hG : gW D Hb lv ad (kJ ce0 ad K.2.2.1 cI cB cO cR (upd s 102 (s 102)) r) _ := by { have e9 : upd s 102 (s 102) = s := upd_id s 102; rw [e9]; exact hG }
  exact L1 (1 + tL s) ((s 102).toNatClampNeg) (s 102) ((t_ixn hB.2.2.1).symm) (hr0) (by omega) (rfl) _ _ hG hL _ (lv_sub hl [0] rfl)
