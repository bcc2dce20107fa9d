/-! a call -/
theorem rdG_P (P : (Nat → Int32) → Prop) {now : Int32} {r : Nat → Nat → Int32} (ha : ∀ s, P s → P (adS s r)) (hb : ∀ s, P s → P (rdB now s r).2) : ∀ k s, P s → P (rdG now r k s).2
  | 0, s, h => ha s h
  | k + 1, s, h => by
    have h1 := hb _ (ha s h)
    unfold rdG
    by_cases c1 : (rdB now (adS s r) r).1 = 0
    · rw [if_pos c1]; exact h1
    · rw [if_neg c1]
      by_cases c2 : kSg 44 (adS (rdB now (adS s r) r).2 r) r = 0
      · rw [if_pos c2]; exact ha _ h1
      · rw [if_neg c2]; exact rdG_P P ha hb k _ (ha _ h1)
def lo100 (s s' : Nat → Int32) : Prop := ∀ f, f < 100 → s' f = s f
theorem lo100.up {s s' : Nat → Int32} (h : lo100 s s') {f : Nat} (hf : 100 ≤ f) (v : Int32) : lo100 s (upd s' f v) := fun g hg => by
  have e : upd s' f v g = s' g := by simp [upd, show ¬ g = f by omega]
  rw [e]; exact h g hg
theorem lo100.ad {s s' : Nat → Int32} (h : lo100 s s') (r : Nat → Nat → Int32) : lo100 s (adS s' r) := (((h.up (by decide) _).up (by decide) _).up (by decide) _).up (by decide) _
theorem rfX_lo {f : Nat} {lo hi : Int32} {s s' : Nat → Int32} {r : Nat → Nat → Int32} (h : lo100 s s') (hf : 100 ≤ f) : lo100 s (rfX f lo hi s' r).2 := (h.ad r).up hf _
theorem rpX_lo {s s' : Nat → Int32} {r : Nat → Nat → Int32} (h : lo100 s s') : lo100 s (rpX s' r).2 := by
  unfold rpX
  split
  · exact (h.ad r).up (by decide) _
  · exact rfX_lo ((h.ad r).up (by decide) _) (by decide)
theorem rdB_lo {now : Int32} {s s' : Nat → Int32} {r : Nat → Nat → Int32} (h : lo100 s s') : lo100 s (rdB now s' r).2 := rdB_P (lo100 s) h (rpX_lo h) (rfX_lo h (by decide)) (rfX_lo h (by decide)) (rfX_lo h (by decide)) (fun v => h.up (by decide) v)
theorem rdZ_lo {now : Int32} {s : Nat → Int32} {r : Nat → Nat → Int32} : lo100 s (rdZ now s r).2 := rdG_P (lo100 s) (fun _ h => h.ad r) (fun _ h => rdB_lo h) 5 _ (((((((show lo100 s s from fun _ _ => rfl).up (by decide) _).up (by decide) _).up (by decide) _).up (by decide) _).up (by decide) _).up (by decide) _ |>.up (by decide) _)
def kcS (s : Nat → Int32) (r : Nat → Nat → Int32) : Nat → Int32 := ctS (rdZ (s 1) s r).1 (rdZ (s 1) s r).2
theorem kcS_n {s : Nat → Int32} {r : Nat → Nat → Int32} {f : Nat} (h : f < 100) (h1 : ¬ f = 61) (h2 : ¬ f = 64) : kcS s r f = s f := by
  have e : kcS s r f = (rdZ (s 1) s r).2 f := by simp [kcS, ctS, upd, h1, h2]
  rw [e]; exact rdZ_lo f h
theorem rdZ_L {lv : Nat → Prop} {now : Int32} {s : Nat → Int32} {r : Nat → Nat → Int32} (h : kL lv s) : kL lv (rdZ now s r).2 := by
  unfold kL
  rw [rdZ_lo 6 (by decide), rdZ_lo 14 (by decide), rdZ_lo 26 (by decide), rdZ_lo 39 (by decide)]
  exact h
theorem kcS_L {lv : Nat → Prop} {s : Nat → Int32} {r : Nat → Nat → Int32} (h : kL lv s) : kL lv (kcS s r) := by
  unfold kL
  rw [kcS_n (by decide) (by decide) (by decide), kcS_n (by decide) (by decide) (by decide), kcS_n (by decide) (by decide) (by decide), kcS_n (by decide) (by decide) (by decide)]
  exact h
theorem kcS_lv {l0 : Nat → Prop} {s : Nat → Int32} {r : Nat → Nat → Int32} : lvC l0 (kcS s r) = lvC l0 s := by
  unfold lvC
  rw [kcS_n (by decide) (by decide) (by decide), kcS_n (by decide) (by decide) (by decide), kcS_n (by decide) (by decide) (by decide), kcS_n (by decide) (by decide) (by decide)]
theorem kcS_B {s : Nat → Int32} {r : Nat → Nat → Int32} (h : cBd s) : cBd (kcS s r) := by
  unfold cBd
  rw [kcS_n (by decide) (by decide) (by decide), kcS_n (by decide) (by decide) (by decide), kcS_n (by decide) (by decide) (by decide), kcS_n (by decide) (by decide) (by decide)]
  exact h
def kcN (s : Nat → Int32) (r : Nat → Nat → Int32) : Int32 := fF (faP (kcS s r) r) (kcS s r 39).toNatClampNeg 0
theorem kcN_in {s : Nat → Int32} {r : Nat → Nat → Int32} (hb : cBd s) (h : ¬ kcN s r = -1) : 0 ≤ (kcN s r).toInt ∧ (kcN s r).toInt < (kcS s r 39).toInt := by
  have hz := kcS_B (r := r) hb
  have a := t_ix hz.2.2.2.1
  have b := hz.n.2.2.2
  unfold kcN at h ⊢
  rcases fF_b (faP (kcS s r) r) (kcS s r 39).toNatClampNeg 0 with q | ⟨j, h1, h2, h3, -⟩
  · exact absurd q h
  · rw [h3, nI_toInt (by omega)]; omega
def xCl (s : Nat → Int32) (r : Nat → Nat → Int32) : Option String := if (rdZ (s 1) s r).1 = 0 then some "java/lang/IllegalArgumentException" else if kcS s r 40 < 200 then (if kcN s r = -1 then (if kcS s r 39 < 60 then none else some "java/lang/UnsupportedOperationException") else none) else some "java/lang/UnsupportedOperationException"
theorem xCl_ok {s : Nat → Int32} {r : Nat → Nat → Int32} (h : xCl s r = none) : ¬ (rdZ (s 1) s r).1 = 0 ∧ kcS s r 40 < 200 ∧ (kcN s r = -1 → kcS s r 39 < 60) := by
  unfold xCl at h
  by_cases c1 : (rdZ (s 1) s r).1 = 0
  · rw [if_pos c1] at h; cases h
  rw [if_neg c1] at h
  by_cases c2 : kcS s r 40 < 200
  · rw [if_pos c2] at h
    refine ⟨c1, c2, fun c3 => ?_⟩
    rw [if_pos c3] at h
    by_cases c4 : kcS s r 39 < 60
    · exact c4
    · rw [if_neg c4] at h; cases h
  · rw [if_neg c2] at h; cases h
theorem bnd {x : Int32} (h0 : 0 ≤ x.toInt) (h : x.toInt < 60) : x.toInt < (x + 1).toInt := by
  rw [p1 h0 (by omega)]; omega

set_option maxHeartbeats 1600000 in
set_option maxRecDepth 100000 in
theorem c_X9_call_bad {l : Launch} {D : va_G} {cI cZ cB cO cR cJ : ClassId} {Hb : Heap} {K : kTx} {lv : Nat → Prop} {ad : Nat → Nat} {ce0 : Nat → va_E} (hst : l.stackTraces = false) (s : Nat → Int32) (r : Nat → Nat → Int32) (hlv : kL lv s)  (hcB : cBd s) (hB : 0 ≤ (s 61).toInt ∧ (s 61).toInt ≤ 400) (hT : hTp r) (hne : ¬ xCl s r = none) : xMet l D cI cZ cB cO cR cJ Hb K lv ad ce0 yX9_call wsX9_call 7 153 1 [.ref (ad 100)] s r (xCl s r) (some (.int (0))) s r (kcS s r) r := by
  refine vx_ofW (cc := cX9_call) (maxL := 3) (ret := (some .int)) (by decide) rfl ?_
  intro p0 e0 s0 m0 args below meth c0 s₁ B hml hout hv
  obtain ⟨rfl, hG, hK, hE⟩ := hv
  have hx := B.exec
  have hb := B.bytes
  have hr := B.returns
  have hts := atoms_spec (ws := wsX9_call) B.pre
  have hown : s0.vm.findClass RX9 = some m0.cls := findClass_of_methodNamed B.named
  have hlocks := B.notSynchronized
  have S : kX p0 m0 c0 cX9_call 3 s0 _ wsX9_call RX9 D (tyL cI cZ cB cO cR cJ) Hb K := ⟨⟨hx, hb, hml, hown, hts⟩, hK, hE⟩
  have hL : gL Hb [] := gL.nil
  have hH := hG.2.2.2.2
  have hl := lv_entry ([.ref (ad 100)]) (n := 3) (Nat.le_of_ble_eq_true rfl)
  rw [lg_entry_eq]
  generalize (lg_sl ([.ref (ad 100)]) ++ List.replicate (3 - (lg_sl ([.ref (ad 100)])).length) Slot.unset).toArray = ls at hl ⊢
  have hl : lv_has ls 3 [(0, .ref (ad 100))] := hl
  have hz := kcS_B (r := r) hcB
  have hz0 := hz.2.2.2.1
  have hz1 := hz.2.2.2.2
  have hlvR : kL lv (rdZ (s 1) s r).2 := rdZ_L hlv
  have hlvK : kL lv (kcS s r) := kcS_L hlv
  refine lv_aload_n hx hb dX9_call_0 rfl (lv_at hl 0 rfl) ?_
  refine k_ga (C := RX9) (T := TX9) (N := 14) (ci := 10) (v := .ref (ad 102)) S hG (fun w h => List.mem_cons_of_mem _ (List.mem_append_left _ (List.mem_append_left _ (List.mem_append_left _ (List.mem_append_left _ (List.mem_append_left _ (List.mem_append_left _ (List.mem_append_left _ (List.mem_append_right _ h))))))))) 100 (hlv.f (by decide) (by decide)) rfl rfl 1 (by decide) rfl (hts (.fieldLink RX9 19 "SwarmLine" "facts" "LSwarmLine$Facts;") (by decide +kernel)) rfl dX9_call_1 ?_
  refine lv_aload_n hx hb dX9_call_4 rfl (lv_at hl 0 rfl) ?_
  refine k_ga (C := RX9) (T := TX9) (N := 14) (ci := 10) (v := .ref (ad 101)) S hG (fun w h => List.mem_cons_of_mem _ (List.mem_append_left _ (List.mem_append_left _ (List.mem_append_left _ (List.mem_append_left _ (List.mem_append_left _ (List.mem_append_left _ (List.mem_append_left _ (List.mem_append_right _ h))))))))) 100 (hlv.f (by decide) (by decide)) rfl rfl 0 (by decide) rfl (hts (.fieldLink RX9 10 "SwarmLine" "tape" "LSwarmLine$Tape;") (by decide +kernel)) rfl dX9_call_5 ?_
  refine lv_aload_n hx hb dX9_call_8 rfl (lv_at hl 0 rfl) ?_
  refine k_gi (C := RX9) (T := TX9) (N := 14) (ci := 10) (v := s 1) S hG (fun w h => List.mem_cons_of_mem _ (List.mem_append_left _ (List.mem_append_left _ (List.mem_append_left _ (List.mem_append_left _ (List.mem_append_left _ (List.mem_append_left _ (List.mem_append_left _ (List.mem_append_right _ h))))))))) 100 (hlv.f (by decide) (by decide)) rfl rfl 12 (by decide) rfl (hts (.fieldLink RX9 71 "SwarmLine" "now" "I") (by decide +kernel)) rfl (rfl) dX9_call_9 ?_
  refine k_callV (n := 2) (As := [.ref (ad 101), .int (s 1)]) (rest := []) (st1 := .int ((rdZ (s 1) s r).1) :: []) (k := 102) (ci := 3) S hG hL (hlv.f (by decide) (by decide)) rfl rfl (c_X2_readFrom s r hlv   (s 1) (hB) (hT)) gX9_call_X2_readFrom rfl ⟨rfl, rfl⟩ (by decide +kernel) ⟨Nat.le_of_ble_eq_true rfl, Nat.le_of_ble_eq_true rfl⟩ rfl hl.1 rfl (Nat.le_of_ble_eq_true rfl) dX9_call_12 ⟨Nat.le_of_ble_eq_true rfl, Nat.le_of_ble_eq_true rfl⟩ (rfl) (fun H locs hG hL => ?_)
  refine lv_istore_n (lv' := [(1, .int ((rdZ (s 1) s r).1)), (0, .ref (ad 100))]) hx hb dX9_call_15 rfl hl (by decide) rfl (fun ls hl => ?_)
  refine lv_aload_n hx hb dX9_call_16 rfl (lv_at hl 1 rfl) ?_
  refine lv_iload_n hx hb dX9_call_17 rfl (lv_at hl 0 rfl) ?_
  refine k_callV (n := 1) (As := [.int ((rdZ (s 1) s r).1)]) (rest := []) (st1 := []) (k := 100) (ci := 10) S hG hL (hlv.f (by decide) (by decide)) rfl rfl (c_X9_closeText ((rdZ (s 1) s r).2) r hlvR  ((rdZ (s 1) s r).1) (by rw [rdZ_lo 61 (by decide)]; exact hB.1)) gX9_call_X9_closeText rfl ⟨rfl, rfl⟩ (by decide +kernel) ⟨Nat.le_of_ble_eq_true rfl, Nat.le_of_ble_eq_true rfl⟩ rfl hl.1 rfl (Nat.le_of_ble_eq_true rfl) dX9_call_18 ⟨Nat.le_of_ble_eq_true rfl, Nat.le_of_ble_eq_true rfl⟩ (rfl) (fun H locs hG hL => ?_)
  have hG : gW D Hb lv ad (kJ ce0 ad K.2.2.1 cI cB cO cR (kcS s r) r) H := hG
  refine lv_iload_n hx hb dX9_call_21 rfl (lv_at hl 0 rfl) ?_
  refine lv_if_ne (tgt := 35) hx hb dX9_call_22 (by decide) (fun c22 => ?_) (fun c22 => ?_)
  ·
    refine lv_aload_n hx hb dX9_call_35 rfl (lv_at hl 1 rfl) ?_
    refine k_gi (C := RX9) (T := TX9) (N := 14) (ci := 10) (v := (kcS s r) 40) S hG (fun w h => List.mem_cons_of_mem _ (List.mem_append_left _ (List.mem_append_left _ (List.mem_append_left _ (List.mem_append_left _ (List.mem_append_left _ (List.mem_append_left _ (List.mem_append_left _ (List.mem_append_right _ h))))))))) 100 (hlv.f (by decide) (by decide)) rfl rfl 11 (by decide) rfl (hts (.fieldLink RX9 67 "SwarmLine" "calls" "I") (by decide +kernel)) rfl (rfl) dX9_call_36 ?_
    refine lv_sipush (v := 200) hx hb dX9_call_39 (by decide) ?_
    refine lv_icmp_lt (tgt := 55) hx hb dX9_call_42 (by decide) (fun c42 => ?_) (fun c42 => ?_)
    ·
      refine lv_aload_n hx hb dX9_call_55 rfl (lv_at hl 1 rfl) ?_
      refine k_callV (n := 0) (As := []) (rest := []) (st1 := .int (kcN s r) :: []) (k := 100) (ci := 10) S hG hL (hlv.f (by decide) (by decide)) rfl rfl (c_X9_firstCaseAlike (kcS s r) r hlvK   (hz0) (hz1)) gX9_call_X9_firstCaseAlike rfl ⟨rfl, rfl⟩ (by decide +kernel) ⟨Nat.le_of_ble_eq_true rfl, Nat.le_of_ble_eq_true rfl⟩ rfl hl.1 rfl (Nat.le_of_ble_eq_true rfl) dX9_call_56 ⟨Nat.le_of_ble_eq_true rfl, Nat.le_of_ble_eq_true rfl⟩ (rfl) (fun H locs hG hL => ?_)
      refine lv_istore_n (lv' := [(2, .int (kcN s r)), (1, .int ((rdZ (s 1) s r).1)), (0, .ref (ad 100))]) hx hb dX9_call_59 rfl hl (by decide) rfl (fun ls hl => ?_)
      refine lv_iload_n hx hb dX9_call_60 rfl (lv_at hl 0 rfl) ?_
      refine lv_iconst (v := (-1)) hx hb dX9_call_61 (by decide) ?_
      refine lv_icmp_ne (tgt := 124) hx hb dX9_call_62 (by decide) (fun c62 => absurd c62 (fun z9 => hne (by simp only [xCl, eq_false c22, eq_true c42, eq_false z9, if_true, if_false]))) (fun c62 => ?_)
      refine lv_aload_n hx hb dX9_call_65 rfl (lv_at hl 2 rfl) ?_
      refine k_ga (C := RX9) (T := TX9) (N := 14) (ci := 10) (v := .ref (ad 108)) S hG (fun w h => List.mem_cons_of_mem _ (List.mem_append_left _ (List.mem_append_left _ (List.mem_append_left _ (List.mem_append_left _ (List.mem_append_left _ (List.mem_append_left _ (List.mem_append_left _ (List.mem_append_right _ h))))))))) 100 (hlv.f (by decide) (by decide)) rfl rfl 7 (by decide) rfl (hts (.fieldLink RX9 50 "SwarmLine" "cases" "Ljava/util/ArrayList;") (by decide +kernel)) rfl dX9_call_66 ?_
      refine k_callV (n := 0) (As := []) (rest := []) (st1 := .int ((kcS s r) 39) :: []) (k := 108) (ci := 0) S hG hL (hlv.f (by decide) (by decide)) rfl rfl (c_size3 (kcS s r) r hlvK   ) gX9_call_Jx4a65c_size_8abf5 rfl ⟨rfl, rfl⟩ (by decide +kernel) ⟨Nat.le_of_ble_eq_true rfl, Nat.le_of_ble_eq_true rfl⟩ rfl hl.1 rfl (Nat.le_of_ble_eq_true rfl) dX9_call_69 ⟨Nat.le_of_ble_eq_true rfl, Nat.le_of_ble_eq_true rfl⟩ (rfl) (fun H locs hG hL => ?_)
      refine lv_bipush (v := 60) hx hb dX9_call_72 (by decide) ?_
      refine lv_icmp_lt (tgt := 87) hx hb dX9_call_74 (by decide) (fun c74 => absurd c74 (fun z9 => hne (by simp only [xCl, eq_false c22, eq_true c42, eq_true c62, eq_true z9, if_true, if_false]))) (fun c74 => ?_)
      exact k_throw (cls := "java/lang/UnsupportedOperationException") (text := "too many cases") (i := 19) S hst hH hG hL (by decide +kernel) (hts (.classLink RX9 146 "java/lang/UnsupportedOperationException") (by decide +kernel)) (hts (.initialized "java/lang/UnsupportedOperationException") (by decide +kernel)) rfl (fun w h => List.mem_cons_of_mem _ (List.mem_append_left _ (List.mem_append_right _ h))) (by decide +kernel) (by decide +kernel) (by decide +kernel) hl.1 dX9_call_77 dX9_call_80 dX9_call_81 dX9_call_83 dX9_call_86 hout (Nat.le_of_ble_eq_true rfl) (Nat.le_of_ble_eq_true rfl) (Nat.le_of_ble_eq_true rfl) (Nat.le_of_ble_eq_true rfl) hlocks (by simp only [xCl, eq_false c22, eq_true c42, eq_true c62, eq_false c74, if_true, if_false]) (congr (congrArg (kJ ce0 ad K.2.2.1 cI cB cO cR) (by rfl)) (by rfl)) (Nat.le_of_ble_eq_true rfl) (Nat.le_of_ble_eq_true rfl)
    ·
      exact k_throw (cls := "java/lang/UnsupportedOperationException") (text := "too many calls") (i := 18) S hst hH hG hL (by decide +kernel) (hts (.classLink RX9 146 "java/lang/UnsupportedOperationException") (by decide +kernel)) (hts (.initialized "java/lang/UnsupportedOperationException") (by decide +kernel)) rfl (fun w h => List.mem_cons_of_mem _ (List.mem_append_left _ (List.mem_append_right _ h))) (by decide +kernel) (by decide +kernel) (by decide +kernel) hl.1 dX9_call_45 dX9_call_48 dX9_call_49 dX9_call_51 dX9_call_54 hout (Nat.le_of_ble_eq_true rfl) (Nat.le_of_ble_eq_true rfl) (Nat.le_of_ble_eq_true rfl) (Nat.le_of_ble_eq_true rfl) hlocks (by simp only [xCl, eq_false c22, eq_false c42, if_true, if_false]) (congr (congrArg (kJ ce0 ad K.2.2.1 cI cB cO cR) (by rfl)) (by rfl)) (Nat.le_of_ble_eq_true rfl) (Nat.le_of_ble_eq_true rfl)
  ·
    exact k_throw (cls := "java/lang/IllegalArgumentException") (text := "the text is wrong") (i := 17) S hst hH hG hL (by decide +kernel) (hts (.classLink RX9 108 "java/lang/IllegalArgumentException") (by decide +kernel)) (hts (.initialized "java/lang/IllegalArgumentException") (by decide +kernel)) rfl (fun w h => List.mem_cons_of_mem _ (List.mem_append_left _ (List.mem_append_left _ (List.mem_append_right _ h)))) (by decide +kernel) (by decide +kernel) (by decide +kernel) hl.1 dX9_call_25 dX9_call_28 dX9_call_29 dX9_call_31 dX9_call_34 hout (Nat.le_of_ble_eq_true rfl) (Nat.le_of_ble_eq_true rfl) (Nat.le_of_ble_eq_true rfl) (Nat.le_of_ble_eq_true rfl) hlocks (by simp only [xCl, eq_true c22, if_true, if_false]) (congr (congrArg (kJ ce0 ad K.2.2.1 cI cB cO cR) (by rfl)) (by rfl)) (Nat.le_of_ble_eq_true rfl) (Nat.le_of_ble_eq_true rfl)

set_option maxHeartbeats 1600000 in
set_option maxRecDepth 100000 in
theorem c_X9_call_old {l : Launch} {D : va_G} {cI cZ cB cO cR cJ : ClassId} {Hb : Heap} {K : kTx} {lv : Nat → Prop} {ad : Nat → Nat} {ce0 : Nat → va_E} (s : Nat → Int32) (r : Nat → Nat → Int32) (hlv : kL lv s)  (hcB : cBd s) (hB : 0 ≤ (s 61).toInt ∧ (s 61).toInt ≤ 400) (hT : hTp r) (hok : xCl s r = none) (hnn : ¬ kcN s r = -1) : kMet l D cI cZ cB cO cR cJ Hb K lv ad ce0 yX9_call wsX9_call 7 153 [.ref (ad 100)] s r (some (.int (kcN s r))) (upd (kcS s r) 40 (kcS s r 40 + 1)) (mlR (Int32.toNatClampNeg (kcN s r)) (kcS s r 1) (kcS s r) r) := by
  refine Met.ofW (cc := cX9_call) (maxL := 3) (ret := (some .int)) (by decide) rfl ?_
  intro p0 e0 s0 m0 args below meth c0 s₁ B hml hv
  obtain ⟨rfl, hG, hK, hE⟩ := hv
  have hx := B.exec
  have hb := B.bytes
  have hr := B.returns
  have hts := atoms_spec (ws := wsX9_call) B.pre
  have hown : s0.vm.findClass RX9 = some m0.cls := findClass_of_methodNamed B.named
  have hlocks := B.notSynchronized
  have S : kX p0 m0 c0 cX9_call 3 s0 _ wsX9_call RX9 D (tyL cI cZ cB cO cR cJ) Hb K := ⟨⟨hx, hb, hml, hown, hts⟩, hK, hE⟩
  have hL : gL Hb [] := gL.nil
  have hH := hG.2.2.2.2
  have hl := lv_entry ([.ref (ad 100)]) (n := 3) (Nat.le_of_ble_eq_true rfl)
  rw [lg_entry_eq]
  generalize (lg_sl ([.ref (ad 100)]) ++ List.replicate (3 - (lg_sl ([.ref (ad 100)])).length) Slot.unset).toArray = ls at hl ⊢
  have hl : lv_has ls 3 [(0, .ref (ad 100))] := hl
  have hz := kcS_B (r := r) hcB
  have hz0 := hz.2.2.2.1
  have hz1 := hz.2.2.2.2
  have hlvR : kL lv (rdZ (s 1) s r).2 := rdZ_L hlv
  have hlvK : kL lv (kcS s r) := kcS_L hlv
  have hk := xCl_ok hok
  have hn := kcN_in hcB hnn
  refine lv_aload_n hx hb dX9_call_0 rfl (lv_at hl 0 rfl) ?_
  refine k_ga (C := RX9) (T := TX9) (N := 14) (ci := 10) (v := .ref (ad 102)) S hG (fun w h => List.mem_cons_of_mem _ (List.mem_append_left _ (List.mem_append_left _ (List.mem_append_left _ (List.mem_append_left _ (List.mem_append_left _ (List.mem_append_left _ (List.mem_append_left _ (List.mem_append_right _ h))))))))) 100 (hlv.f (by decide) (by decide)) rfl rfl 1 (by decide) rfl (hts (.fieldLink RX9 19 "SwarmLine" "facts" "LSwarmLine$Facts;") (by decide +kernel)) rfl dX9_call_1 ?_
  refine lv_aload_n hx hb dX9_call_4 rfl (lv_at hl 0 rfl) ?_
  refine k_ga (C := RX9) (T := TX9) (N := 14) (ci := 10) (v := .ref (ad 101)) S hG (fun w h => List.mem_cons_of_mem _ (List.mem_append_left _ (List.mem_append_left _ (List.mem_append_left _ (List.mem_append_left _ (List.mem_append_left _ (List.mem_append_left _ (List.mem_append_left _ (List.mem_append_right _ h))))))))) 100 (hlv.f (by decide) (by decide)) rfl rfl 0 (by decide) rfl (hts (.fieldLink RX9 10 "SwarmLine" "tape" "LSwarmLine$Tape;") (by decide +kernel)) rfl dX9_call_5 ?_
  refine lv_aload_n hx hb dX9_call_8 rfl (lv_at hl 0 rfl) ?_
  refine k_gi (C := RX9) (T := TX9) (N := 14) (ci := 10) (v := s 1) S hG (fun w h => List.mem_cons_of_mem _ (List.mem_append_left _ (List.mem_append_left _ (List.mem_append_left _ (List.mem_append_left _ (List.mem_append_left _ (List.mem_append_left _ (List.mem_append_left _ (List.mem_append_right _ h))))))))) 100 (hlv.f (by decide) (by decide)) rfl rfl 12 (by decide) rfl (hts (.fieldLink RX9 71 "SwarmLine" "now" "I") (by decide +kernel)) rfl (rfl) dX9_call_9 ?_
  refine k_callV (n := 2) (As := [.ref (ad 101), .int (s 1)]) (rest := []) (st1 := .int ((rdZ (s 1) s r).1) :: []) (k := 102) (ci := 3) S hG hL (hlv.f (by decide) (by decide)) rfl rfl (c_X2_readFrom s r hlv   (s 1) (hB) (hT)) gX9_call_X2_readFrom rfl ⟨rfl, rfl⟩ (by decide +kernel) ⟨Nat.le_of_ble_eq_true rfl, Nat.le_of_ble_eq_true rfl⟩ rfl hl.1 rfl (Nat.le_of_ble_eq_true rfl) dX9_call_12 ⟨Nat.zero_le _, Nat.zero_le _⟩ (rfl) (fun H locs hG hL => ?_)
  refine lv_istore_n (lv' := [(1, .int ((rdZ (s 1) s r).1)), (0, .ref (ad 100))]) hx hb dX9_call_15 rfl hl (by decide) rfl (fun ls hl => ?_)
  refine lv_aload_n hx hb dX9_call_16 rfl (lv_at hl 1 rfl) ?_
  refine lv_iload_n hx hb dX9_call_17 rfl (lv_at hl 0 rfl) ?_
  refine k_callV (n := 1) (As := [.int ((rdZ (s 1) s r).1)]) (rest := []) (st1 := []) (k := 100) (ci := 10) S hG hL (hlv.f (by decide) (by decide)) rfl rfl (c_X9_closeText ((rdZ (s 1) s r).2) r hlvR  ((rdZ (s 1) s r).1) (by rw [rdZ_lo 61 (by decide)]; exact hB.1)) gX9_call_X9_closeText rfl ⟨rfl, rfl⟩ (by decide +kernel) ⟨Nat.le_of_ble_eq_true rfl, Nat.le_of_ble_eq_true rfl⟩ rfl hl.1 rfl (Nat.le_of_ble_eq_true rfl) dX9_call_18 ⟨Nat.zero_le _, Nat.zero_le _⟩ (rfl) (fun H locs hG hL => ?_)
  have hG : gW D Hb lv ad (kJ ce0 ad K.2.2.1 cI cB cO cR (kcS s r) r) H := hG
  refine lv_iload_n hx hb dX9_call_21 rfl (lv_at hl 0 rfl) ?_
  refine lv_if_ne (tgt := 35) hx hb dX9_call_22 (by decide) (fun c22 => ?_) (fun c22 => absurd c22 (hk.1))
  refine lv_aload_n hx hb dX9_call_35 rfl (lv_at hl 1 rfl) ?_
  refine k_gi (C := RX9) (T := TX9) (N := 14) (ci := 10) (v := (kcS s r) 40) S hG (fun w h => List.mem_cons_of_mem _ (List.mem_append_left _ (List.mem_append_left _ (List.mem_append_left _ (List.mem_append_left _ (List.mem_append_left _ (List.mem_append_left _ (List.mem_append_left _ (List.mem_append_right _ h))))))))) 100 (hlv.f (by decide) (by decide)) rfl rfl 11 (by decide) rfl (hts (.fieldLink RX9 67 "SwarmLine" "calls" "I") (by decide +kernel)) rfl (rfl) dX9_call_36 ?_
  refine lv_sipush (v := 200) hx hb dX9_call_39 (by decide) ?_
  refine lv_icmp_lt (tgt := 55) hx hb dX9_call_42 (by decide) (fun c42 => ?_) (fun c42 => absurd c42 (fun z => z hk.2.1))
  refine lv_aload_n hx hb dX9_call_55 rfl (lv_at hl 1 rfl) ?_
  refine k_callV (n := 0) (As := []) (rest := []) (st1 := .int (kcN s r) :: []) (k := 100) (ci := 10) S hG hL (hlv.f (by decide) (by decide)) rfl rfl (c_X9_firstCaseAlike (kcS s r) r hlvK   (hz0) (hz1)) gX9_call_X9_firstCaseAlike rfl ⟨rfl, rfl⟩ (by decide +kernel) ⟨Nat.le_of_ble_eq_true rfl, Nat.le_of_ble_eq_true rfl⟩ rfl hl.1 rfl (Nat.le_of_ble_eq_true rfl) dX9_call_56 ⟨Nat.zero_le _, Nat.zero_le _⟩ (rfl) (fun H locs hG hL => ?_)
  refine lv_istore_n (lv' := [(2, .int (kcN s r)), (1, .int ((rdZ (s 1) s r).1)), (0, .ref (ad 100))]) hx hb dX9_call_59 rfl hl (by decide) rfl (fun ls hl => ?_)
  refine lv_iload_n hx hb dX9_call_60 rfl (lv_at hl 0 rfl) ?_
  refine lv_iconst (v := (-1)) hx hb dX9_call_61 (by decide) ?_
  refine lv_icmp_ne (tgt := 124) hx hb dX9_call_62 (by decide) (fun c62 => ?_) (fun c62 => absurd c62 (fun z => hnn z))
  refine lv_aload_n hx hb dX9_call_124 rfl (lv_at hl 2 rfl) ?_
  refine lv_iload_n hx hb dX9_call_125 rfl (lv_at hl 0 rfl) ?_
  refine k_callV (n := 1) (As := [.int (kcN s r)]) (rest := []) (st1 := .ref (ad (4000 + Int32.toNatClampNeg (kcN s r))) :: []) (k := 100) (ci := 10) S hG hL (hlv.f (by decide) (by decide)) rfl rfl (c_X9_caseNumbered_ok (kcS s r) r hlvK  (kcN s r) (hn.1) (hn.2) (hz1)) gX9_call_X9_caseNumbered rfl ⟨rfl, rfl⟩ (by decide +kernel) ⟨Nat.le_of_ble_eq_true rfl, Nat.le_of_ble_eq_true rfl⟩ rfl hl.1 rfl (Nat.le_of_ble_eq_true rfl) dX9_call_126 ⟨Nat.zero_le _, Nat.zero_le _⟩ (rfl) (fun H locs hG hL => ?_)
  refine lv_aload_n hx hb dX9_call_129 rfl (lv_at hl 2 rfl) ?_
  refine k_ga (C := RX9) (T := TX9) (N := 14) (ci := 10) (v := .ref (ad 102)) S hG (fun w h => List.mem_cons_of_mem _ (List.mem_append_left _ (List.mem_append_left _ (List.mem_append_left _ (List.mem_append_left _ (List.mem_append_left _ (List.mem_append_left _ (List.mem_append_left _ (List.mem_append_right _ h))))))))) 100 (hlv.f (by decide) (by decide)) rfl rfl 1 (by decide) rfl (hts (.fieldLink RX9 19 "SwarmLine" "facts" "LSwarmLine$Facts;") (by decide +kernel)) rfl dX9_call_130 ?_
  refine lv_aload_n hx hb dX9_call_133 rfl (lv_at hl 2 rfl) ?_
  refine k_gi (C := RX9) (T := TX9) (N := 14) (ci := 10) (v := (kcS s r) 1) S hG (fun w h => List.mem_cons_of_mem _ (List.mem_append_left _ (List.mem_append_left _ (List.mem_append_left _ (List.mem_append_left _ (List.mem_append_left _ (List.mem_append_left _ (List.mem_append_left _ (List.mem_append_right _ h))))))))) 100 (hlv.f (by decide) (by decide)) rfl rfl 12 (by decide) rfl (hts (.fieldLink RX9 71 "SwarmLine" "now" "I") (by decide +kernel)) rfl (rfl) dX9_call_134 ?_
  refine k_callV (n := 2) (As := [.ref (ad 102), .int ((kcS s r) 1)]) (rest := []) (st1 := []) (k := 4000 + Int32.toNatClampNeg (kcN s r)) (ci := 2) S hG hL (hlvK.ca (ix_lt hn.1 hn.2)) (kJ_ca (ix_le hn.1 (by omega))) rfl (c_X1_melt (kcS s r) r hlvK (Int32.toNatClampNeg (kcN s r)) (ix_lt hn.1 hn.2) (ix_le hn.1 (by omega))  ((kcS s r) 1) ) gX9_call_X1_melt rfl ⟨rfl, rfl⟩ (by decide +kernel) ⟨Nat.le_of_ble_eq_true rfl, Nat.le_of_ble_eq_true rfl⟩ rfl hl.1 rfl (Nat.le_of_ble_eq_true rfl) dX9_call_137 ⟨Nat.zero_le _, Nat.zero_le _⟩ (rfl) (fun H locs hG hL => ?_)
  refine lv_aload_n hx hb dX9_call_140 rfl (lv_at hl 2 rfl) ?_
  refine lv_dup hx hb dX9_call_141 rfl ?_
  refine k_gi (C := RX9) (T := TX9) (N := 14) (ci := 10) (v := (kcS s r) 40) S hG (fun w h => List.mem_cons_of_mem _ (List.mem_append_left _ (List.mem_append_left _ (List.mem_append_left _ (List.mem_append_left _ (List.mem_append_left _ (List.mem_append_left _ (List.mem_append_left _ (List.mem_append_right _ h))))))))) 100 (hlv.f (by decide) (by decide)) rfl rfl 11 (by decide) rfl (hts (.fieldLink RX9 67 "SwarmLine" "calls" "I") (by decide +kernel)) rfl (rfl) dX9_call_142 ?_
  refine lv_iconst (v := 1) hx hb dX9_call_145 (by decide) ?_
  refine lv_iadd hx hb dX9_call_146 ?_
  refine k_pi (C := RX9) (T := TX9) (N := 14) (ci := 10) (ty := .int) S hG hL (fun w h => List.mem_cons_of_mem _ (List.mem_append_left _ (List.mem_append_left _ (List.mem_append_left _ (List.mem_append_left _ (List.mem_append_left _ (List.mem_append_left _ (List.mem_append_left _ (List.mem_append_right _ h))))))))) tyX9 tyX9_ok nmX9 100 (hlv.f (by decide) (by decide)) rfl rfl 11 (by decide) rfl (hts (.fieldLink RX9 67 "SwarmLine" "calls" "I") (by decide +kernel)) rfl (by decide +kernel) rfl rfl (Nat.le_of_ble_eq_true rfl) (kw_100_calls _) dX9_call_147 (fun H locs hG hL => ?_)
  refine lv_iload_n hx hb dX9_call_150 rfl (lv_at hl 0 rfl) ?_
  exact g_iret S.1 hr hlocks hG hL (congrArg (fun z => some (Value.int z)) (by rfl)) (congr (congrArg (kJ ce0 ad K.2.2.1 cI cB cO cR) (by rfl)) (by rfl)) dX9_call_151

set_option maxHeartbeats 1600000 in
set_option maxRecDepth 100000 in
theorem c_X9_call_new {l : Launch} {D : va_G} {cI cZ cB cO cR cJ : ClassId} {Hb : Heap} {K : kTx} {l0 : Nat → Prop} {ad : Nat → Nat} {ce0 : Nat → va_E} (s : Nat → Int32) (r : Nat → Nat → Int32)  (hcB : cBd s) (hB : 0 ≤ (s 61).toInt ∧ (s 61).toInt ≤ 400) (hT : hTp r) (hok : xCl s r = none) (hnn : kcN s r = -1) (sc : Nat → Int32) (hsc : sc = kcS s r) : Met l yX9_call wsX9_call { frames := 7, cells := 2, slots := 84, locals := 180 } (va_Pc [.ref (ad 100)] (kP D (tyL cI cZ cB cO cR cJ) Hb K (lvC l0 s) ad (kJ ce0 ad K.2.2.1 cI cB cO cR s r))) (mQ D Hb l0 ad (lvA l0) (some (.int (sc 39))) ce0 K.2.2.1 cI cB cO cR (upd (upd (upd sc 124 (sc 124 + 1)) 39 (sc 39 + 1)) 40 (sc 40 + 1)) (mlR (Int32.toNatClampNeg (sc 39)) (sc 1) (upd (upd sc 124 (sc 124 + 1)) 39 (sc 39 + 1)) (up2 (up2 (up2 (up2 (up2 (up2 (up2 (up2 (up2 (up2 (up2 (zca r (sc 39).toNatClampNeg) 44 ((sc 39).toNatClampNeg) 0) 41 ((sc 39).toNatClampNeg) 0) 45 ((sc 39).toNatClampNeg) 0) 46 ((sc 39).toNatClampNeg) (-1)) 47 ((sc 39).toNatClampNeg) 0) 48 ((sc 39).toNatClampNeg) 0) 49 ((sc 39).toNatClampNeg) (-1)) 50 ((sc 39).toNatClampNeg) (-1)) 51 ((sc 39).toNatClampNeg) (-1)) 42 ((sc 39).toNatClampNeg) (sc 104)) 43 ((sc 39).toNatClampNeg) (sc 105)))) 2 84 (gA Hb) := by
  refine Met.ofW (cc := cX9_call) (maxL := 3) (ret := (some .int)) (by decide) rfl ?_
  intro p0 e0 s0 m0 args below meth c0 s₁ B hml hv
  obtain ⟨rfl, hG, hK, hE⟩ := hv
  have hx := B.exec
  have hb := B.bytes
  have hr := B.returns
  have hts := atoms_spec (ws := wsX9_call) B.pre
  have hown : s0.vm.findClass RX9 = some m0.cls := findClass_of_methodNamed B.named
  have hlocks := B.notSynchronized
  have S : kX p0 m0 c0 cX9_call 3 s0 _ wsX9_call RX9 D (tyL cI cZ cB cO cR cJ) Hb K := ⟨⟨hx, hb, hml, hown, hts⟩, hK, hE⟩
  have hL : gL Hb [] := gL.nil
  have hH := hG.2.2.2.2
  have hl := lv_entry ([.ref (ad 100)]) (n := 3) (Nat.le_of_ble_eq_true rfl)
  rw [lg_entry_eq]
  generalize (lg_sl ([.ref (ad 100)]) ++ List.replicate (3 - (lg_sl ([.ref (ad 100)])).length) Slot.unset).toArray = ls at hl ⊢
  have hl : lv_has ls 3 [(0, .ref (ad 100))] := hl
  have hlv : kL (lvC l0 s) s := lvC_L
  have hz : cBd sc := (by { rw [hsc]; exact kcS_B hcB })
  have hz0 := hz.2.2.2.1
  have hz1 := hz.2.2.2.2
  have hlvR : kL (lvC l0 s) (rdZ (s 1) s r).2 := rdZ_L hlv
  have hk := xCl_ok hok
  rw [← hsc] at hk
  have h60 := lt60 (hk.2.2 hnn)
  have hq := hz.n
  refine lv_aload_n hx hb dX9_call_0 rfl (lv_at hl 0 rfl) ?_
  refine k_ga (C := RX9) (T := TX9) (N := 14) (ci := 10) (v := .ref (ad 102)) S hG (fun w h => List.mem_cons_of_mem _ (List.mem_append_left _ (List.mem_append_left _ (List.mem_append_left _ (List.mem_append_left _ (List.mem_append_left _ (List.mem_append_left _ (List.mem_append_left _ (List.mem_append_right _ h))))))))) 100 (hlv.f (by decide) (by decide)) rfl rfl 1 (by decide) rfl (hts (.fieldLink RX9 19 "SwarmLine" "facts" "LSwarmLine$Facts;") (by decide +kernel)) rfl dX9_call_1 ?_
  refine lv_aload_n hx hb dX9_call_4 rfl (lv_at hl 0 rfl) ?_
  refine k_ga (C := RX9) (T := TX9) (N := 14) (ci := 10) (v := .ref (ad 101)) S hG (fun w h => List.mem_cons_of_mem _ (List.mem_append_left _ (List.mem_append_left _ (List.mem_append_left _ (List.mem_append_left _ (List.mem_append_left _ (List.mem_append_left _ (List.mem_append_left _ (List.mem_append_right _ h))))))))) 100 (hlv.f (by decide) (by decide)) rfl rfl 0 (by decide) rfl (hts (.fieldLink RX9 10 "SwarmLine" "tape" "LSwarmLine$Tape;") (by decide +kernel)) rfl dX9_call_5 ?_
  refine lv_aload_n hx hb dX9_call_8 rfl (lv_at hl 0 rfl) ?_
  refine k_gi (C := RX9) (T := TX9) (N := 14) (ci := 10) (v := s 1) S hG (fun w h => List.mem_cons_of_mem _ (List.mem_append_left _ (List.mem_append_left _ (List.mem_append_left _ (List.mem_append_left _ (List.mem_append_left _ (List.mem_append_left _ (List.mem_append_left _ (List.mem_append_right _ h))))))))) 100 (hlv.f (by decide) (by decide)) rfl rfl 12 (by decide) rfl (hts (.fieldLink RX9 71 "SwarmLine" "now" "I") (by decide +kernel)) rfl (rfl) dX9_call_9 ?_
  refine k_callV (n := 2) (As := [.ref (ad 101), .int (s 1)]) (rest := []) (st1 := .int ((rdZ (s 1) s r).1) :: []) (k := 102) (ci := 3) S hG hL (hlv.f (by decide) (by decide)) rfl rfl (c_X2_readFrom s r hlv   (s 1) (hB) (hT)) gX9_call_X2_readFrom rfl ⟨rfl, rfl⟩ (by decide +kernel) ⟨Nat.le_of_ble_eq_true rfl, Nat.le_of_ble_eq_true rfl⟩ rfl hl.1 rfl (Nat.le_of_ble_eq_true rfl) dX9_call_12 ⟨Nat.le_of_ble_eq_true rfl, Nat.le_of_ble_eq_true rfl⟩ (rfl) (fun H locs hG hL => ?_)
  refine lv_istore_n (lv' := [(1, .int ((rdZ (s 1) s r).1)), (0, .ref (ad 100))]) hx hb dX9_call_15 rfl hl (by decide) rfl (fun ls hl => ?_)
  refine lv_aload_n hx hb dX9_call_16 rfl (lv_at hl 1 rfl) ?_
  refine lv_iload_n hx hb dX9_call_17 rfl (lv_at hl 0 rfl) ?_
  refine k_callV (n := 1) (As := [.int ((rdZ (s 1) s r).1)]) (rest := []) (st1 := []) (k := 100) (ci := 10) S hG hL (hlv.f (by decide) (by decide)) rfl rfl (c_X9_closeText ((rdZ (s 1) s r).2) r hlvR  ((rdZ (s 1) s r).1) (by rw [rdZ_lo 61 (by decide)]; exact hB.1)) gX9_call_X9_closeText rfl ⟨rfl, rfl⟩ (by decide +kernel) ⟨Nat.le_of_ble_eq_true rfl, Nat.le_of_ble_eq_true rfl⟩ rfl hl.1 rfl (Nat.le_of_ble_eq_true rfl) dX9_call_18 ⟨Nat.le_of_ble_eq_true rfl, Nat.le_of_ble_eq_true rfl⟩ (rfl) (fun H locs hG hL => ?_)
  have hG : gW D Hb (lvC l0 sc) ad (kJ ce0 ad K.2.2.1 cI cB cO cR sc r) H := (by { rw [hsc, kcS_lv]; exact hG }); have hlv : kL (lvC l0 sc) sc := lvC_L
  refine lv_iload_n hx hb dX9_call_21 rfl (lv_at hl 0 rfl) ?_
  refine lv_if_ne (tgt := 35) hx hb dX9_call_22 (by decide) (fun c22 => ?_) (fun c22 => absurd c22 (hk.1))
  refine lv_aload_n hx hb dX9_call_35 rfl (lv_at hl 1 rfl) ?_
  refine k_gi (C := RX9) (T := TX9) (N := 14) (ci := 10) (v := sc 40) S hG (fun w h => List.mem_cons_of_mem _ (List.mem_append_left _ (List.mem_append_left _ (List.mem_append_left _ (List.mem_append_left _ (List.mem_append_left _ (List.mem_append_left _ (List.mem_append_left _ (List.mem_append_right _ h))))))))) 100 (hlv.f (by decide) (by decide)) rfl rfl 11 (by decide) rfl (hts (.fieldLink RX9 67 "SwarmLine" "calls" "I") (by decide +kernel)) rfl (rfl) dX9_call_36 ?_
  refine lv_sipush (v := 200) hx hb dX9_call_39 (by decide) ?_
  refine lv_icmp_lt (tgt := 55) hx hb dX9_call_42 (by decide) (fun c42 => ?_) (fun c42 => absurd c42 (fun z => z hk.2.1))
  refine lv_aload_n hx hb dX9_call_55 rfl (lv_at hl 1 rfl) ?_
  refine k_callV (n := 0) (As := []) (rest := []) (st1 := .int (kcN s r) :: []) (k := 100) (ci := 10) S hG hL (hlv.f (by decide) (by decide)) rfl rfl (c_X9_firstCaseAlike sc r hlv   (hz0) (hz1)) gX9_call_X9_firstCaseAlike rfl ⟨rfl, rfl⟩ (by decide +kernel) ⟨Nat.le_of_ble_eq_true rfl, Nat.le_of_ble_eq_true rfl⟩ rfl hl.1 rfl (Nat.le_of_ble_eq_true rfl) dX9_call_56 ⟨Nat.le_of_ble_eq_true rfl, Nat.le_of_ble_eq_true rfl⟩ (by rw [hsc]; rfl) (fun H locs hG hL => ?_)
  refine lv_istore_n (lv' := [(2, .int (kcN s r)), (1, .int ((rdZ (s 1) s r).1)), (0, .ref (ad 100))]) hx hb dX9_call_59 rfl hl (by decide) rfl (fun ls hl => ?_)
  refine lv_iload_n hx hb dX9_call_60 rfl (lv_at hl 0 rfl) ?_
  refine lv_iconst (v := (-1)) hx hb dX9_call_61 (by decide) ?_
  refine lv_icmp_ne (tgt := 124) hx hb dX9_call_62 (by decide) (fun c62 => absurd c62 (fun z => z hnn)) (fun c62 => ?_)
  refine lv_aload_n hx hb dX9_call_65 rfl (lv_at hl 2 rfl) ?_
  refine k_ga (C := RX9) (T := TX9) (N := 14) (ci := 10) (v := .ref (ad 108)) S hG (fun w h => List.mem_cons_of_mem _ (List.mem_append_left _ (List.mem_append_left _ (List.mem_append_left _ (List.mem_append_left _ (List.mem_append_left _ (List.mem_append_left _ (List.mem_append_left _ (List.mem_append_right _ h))))))))) 100 (hlv.f (by decide) (by decide)) rfl rfl 7 (by decide) rfl (hts (.fieldLink RX9 50 "SwarmLine" "cases" "Ljava/util/ArrayList;") (by decide +kernel)) rfl dX9_call_66 ?_
  refine k_callV (n := 0) (As := []) (rest := []) (st1 := .int (sc 39) :: []) (k := 108) (ci := 0) S hG hL (hlv.f (by decide) (by decide)) rfl rfl (c_size3 sc r hlv   ) gX9_call_Jx4a65c_size_8abf5 rfl ⟨rfl, rfl⟩ (by decide +kernel) ⟨Nat.le_of_ble_eq_true rfl, Nat.le_of_ble_eq_true rfl⟩ rfl hl.1 rfl (Nat.le_of_ble_eq_true rfl) dX9_call_69 ⟨Nat.le_of_ble_eq_true rfl, Nat.le_of_ble_eq_true rfl⟩ (rfl) (fun H locs hG hL => ?_)
  refine lv_bipush (v := 60) hx hb dX9_call_72 (by decide) ?_
  refine lv_icmp_lt (tgt := 87) hx hb dX9_call_74 (by decide) (fun c74 => ?_) (fun c74 => absurd c74 (fun z => z (hk.2.2 hnn)))
  refine lv_aload_n hx hb dX9_call_87 rfl (lv_at hl 2 rfl) ?_
  refine k_ga (C := RX9) (T := TX9) (N := 14) (ci := 10) (v := .ref (ad 108)) S hG (fun w h => List.mem_cons_of_mem _ (List.mem_append_left _ (List.mem_append_left _ (List.mem_append_left _ (List.mem_append_left _ (List.mem_append_left _ (List.mem_append_left _ (List.mem_append_left _ (List.mem_append_right _ h))))))))) 100 (hlv.f (by decide) (by decide)) rfl rfl 7 (by decide) rfl (hts (.fieldLink RX9 50 "SwarmLine" "cases" "Ljava/util/ArrayList;") (by decide +kernel)) rfl dX9_call_88 ?_
  refine k_callV (n := 0) (As := []) (rest := []) (st1 := .int (sc 39) :: []) (k := 108) (ci := 0) S hG hL (hlv.f (by decide) (by decide)) rfl rfl (c_size3 sc r hlv   ) gX9_call_Jx4a65c_size_8abf5 rfl ⟨rfl, rfl⟩ (by decide +kernel) ⟨Nat.le_of_ble_eq_true rfl, Nat.le_of_ble_eq_true rfl⟩ rfl hl.1 rfl (Nat.le_of_ble_eq_true rfl) dX9_call_91 ⟨Nat.le_of_ble_eq_true rfl, Nat.le_of_ble_eq_true rfl⟩ (rfl) (fun H locs hG hL => ?_)
  refine lv_istore_n (lv' := [(2, .int (sc 39)), (1, .int ((rdZ (s 1) s r).1)), (0, .ref (ad 100))]) hx hb dX9_call_94 rfl hl (by decide) rfl (fun ls hl => ?_)
  refine lv_aload_n hx hb dX9_call_95 rfl (lv_at hl 2 rfl) ?_
  refine k_ga (C := RX9) (T := TX9) (N := 14) (ci := 10) (v := .ref (ad 108)) S hG (fun w h => List.mem_cons_of_mem _ (List.mem_append_left _ (List.mem_append_left _ (List.mem_append_left _ (List.mem_append_left _ (List.mem_append_left _ (List.mem_append_left _ (List.mem_append_left _ (List.mem_append_right _ h))))))))) 100 (hlv.f (by decide) (by decide)) rfl rfl 7 (by decide) rfl (hts (.fieldLink RX9 50 "SwarmLine" "cases" "Ljava/util/ArrayList;") (by decide +kernel)) rfl dX9_call_96 ?_
  refine z_new (C := RX1) (T := TX1) (N := 11) (ci := 2) (fs := [.int 0, .int 0, .int 0, .int 0, .int 0, .int 0, .int 0, .int 0, .int 0, .int 0, .int 0]) S.1 hK hG (fun w h => List.mem_cons_of_mem _ (List.mem_append_left _ (List.mem_append_left _ (List.mem_append_left _ (List.mem_append_left _ (List.mem_append_left _ (List.mem_append_left _ (List.mem_append_right _ h)))))))) tyX1 tyX1_ok (hts (.classLink RX9 209 "SwarmLine$Case") (by decide +kernel)) (hts (.instantiable "SwarmLine$Case" 11) (by decide +kernel)) (hts (.initialized "SwarmLine$Case") (by decide +kernel)) rfl (4000 + (sc 39).toNatClampNeg) (lvC_nca hz) (by decide +kernel) (by show _ ≤ 2; omega) (by show _ ≤ 84; omega) dX9_call_99 (fun ad1 H had1 hG => ?_)
  have hag : ∀ j, kLv (sc 6).toNatClampNeg (sc 14).toNatClampNeg (sc 26).toNatClampNeg (sc 39).toNatClampNeg j → ad1 j = ad j := fun j hj => had1 j (Or.inr hj)
  have hG : gW D Hb (fun j => lvC l0 sc j ∨ j = 4000 + (sc 39).toNatClampNeg) ad1 (kJ ce0 ad1 K.2.2.1 cI cB cO cR sc (zca r (sc 39).toNatClampNeg)) H := by { rw [zca_e (by omega), ← kJ_ad hag] at hG; exact hG }
  have hlv : kL (fun j => lvC l0 sc j ∨ j = 4000 + (sc 39).toNatClampNeg) sc := fun k h => Or.inl (Or.inr h)
  have hl : lv_has ls 3 [(2, .int (sc 39)), (1, .int ((rdZ (s 1) s r).1)), (0, .ref (ad1 100))] := by { rw [had1 100 (Or.inr (Or.inl ⟨by decide, by decide⟩))]; exact hl }
  rw [show ad 108 = ad1 108 from (had1 108 (Or.inr (Or.inl ⟨by decide, by decide⟩))).symm]
  refine lv_dup hx hb dX9_call_102 rfl ?_
  refine lv_aload_n hx hb dX9_call_103 rfl (lv_at hl 2 rfl) ?_
  refine k_ga (C := RX9) (T := TX9) (N := 14) (ci := 10) (v := .ref (ad1 102)) S hG (fun w h => List.mem_cons_of_mem _ (List.mem_append_left _ (List.mem_append_left _ (List.mem_append_left _ (List.mem_append_left _ (List.mem_append_left _ (List.mem_append_left _ (List.mem_append_left _ (List.mem_append_right _ h))))))))) 100 (hlv.f (by decide) (by decide)) rfl rfl 1 (by decide) rfl (hts (.fieldLink RX9 19 "SwarmLine" "facts" "LSwarmLine$Facts;") (by decide +kernel)) rfl dX9_call_104 ?_
  refine k_giN (C := RX2) (T := TX2) (N := 6) (ci := 3) (v := sc 104) S hG (fun w h => List.mem_cons_of_mem _ (List.mem_append_left _ (List.mem_append_left _ (List.mem_append_left _ (List.mem_append_left _ (List.mem_append_left _ (List.mem_append_right _ h))))))) 102 (hlv.f (by decide) (by decide)) rfl rfl 0 (by decide) rfl (by decide +kernel) rfl (rfl) dX9_call_107 ?_
  refine lv_aload_n hx hb dX9_call_110 rfl (lv_at hl 2 rfl) ?_
  refine k_ga (C := RX9) (T := TX9) (N := 14) (ci := 10) (v := .ref (ad1 102)) S hG (fun w h => List.mem_cons_of_mem _ (List.mem_append_left _ (List.mem_append_left _ (List.mem_append_left _ (List.mem_append_left _ (List.mem_append_left _ (List.mem_append_left _ (List.mem_append_left _ (List.mem_append_right _ h))))))))) 100 (hlv.f (by decide) (by decide)) rfl rfl 1 (by decide) rfl (hts (.fieldLink RX9 19 "SwarmLine" "facts" "LSwarmLine$Facts;") (by decide +kernel)) rfl dX9_call_111 ?_
  refine k_giN (C := RX2) (T := TX2) (N := 6) (ci := 3) (v := sc 105) S hG (fun w h => List.mem_cons_of_mem _ (List.mem_append_left _ (List.mem_append_left _ (List.mem_append_left _ (List.mem_append_left _ (List.mem_append_left _ (List.mem_append_right _ h))))))) 102 (hlv.f (by decide) (by decide)) rfl rfl 1 (by decide) rfl (by decide +kernel) rfl (rfl) dX9_call_114 ?_
  refine k_callI (ws' := []) (n := 2) (As := [.int (sc 104), .int (sc 105)]) (rest := [.ref (ad1 (4000 + (sc 39).toNatClampNeg)), .ref (ad1 108)]) (st1 := [.ref (ad1 (4000 + (sc 39).toNatClampNeg)), .ref (ad1 108)]) (k := 4000 + (sc 39).toNatClampNeg) (mc := 0) (ms := 0) S hG hL (c_X1_init sc (zca r (sc 39).toNatClampNeg) hlv ((sc 39).toNatClampNeg) (Or.inr rfl) (by omega) (sc 104) (sc 105)) (cwI 2 S.1.2.2.2.2 gX9_call_X1_init rfl rfl rfl (hts (.initialized RX1) (by decide +kernel)) (hts (.methodLink RX9 217 yX1_init) (by decide +kernel)) (hts (.instanceMethod yX1_init) (by decide +kernel)) rfl (by decide +kernel) ⟨Nat.le_of_ble_eq_true rfl, Nat.le_of_ble_eq_true rfl⟩) rfl hl.1 rfl (Nat.le_of_ble_eq_true rfl) dX9_call_117 (by constructor <;> (show _ ≤ _; first | exact Nat.le_of_ble_eq_true rfl | (show _ ≤ 2; omega) | (show _ ≤ 84; omega))) rfl (fun H locs hG hL => ?_)
  refine z_add3 (rest := []) S sc (up2 (up2 (up2 (up2 (up2 (up2 (up2 (up2 (up2 (up2 (up2 (zca r (sc 39).toNatClampNeg) 44 ((sc 39).toNatClampNeg) 0) 41 ((sc 39).toNatClampNeg) 0) 45 ((sc 39).toNatClampNeg) 0) 46 ((sc 39).toNatClampNeg) (-1)) 47 ((sc 39).toNatClampNeg) 0) 48 ((sc 39).toNatClampNeg) 0) 49 ((sc 39).toNatClampNeg) (-1)) 50 ((sc 39).toNatClampNeg) (-1)) 51 ((sc 39).toNatClampNeg) (-1)) 42 ((sc 39).toNatClampNeg) (sc 104)) 43 ((sc 39).toNatClampNeg) (sc 105)) hz h60 hG hL gX9_call_Jx4a65c_add_9ea2d ⟨Nat.le_of_ble_eq_true rfl, Nat.le_of_ble_eq_true rfl⟩ hl.1 (Nat.le_of_ble_eq_true rfl) dX9_call_120 (by constructor <;> (show _ ≤ _; first | (show _ ≤ 2; omega) | (show _ ≤ 84; omega))) (fun ad2 H locs had2 hG hL => ?_)
  have hlv : kL (lvC l0 (upd (upd sc 124 ((sc 124) + 1)) 39 ((sc 39) + 1))) (upd (upd sc 124 ((sc 124) + 1)) 39 ((sc 39) + 1)) := fun k h => Or.inr h
  have hl : lv_has ls 3 [(2, .int (sc 39)), (1, .int ((rdZ (s 1) s r).1)), (0, .ref (ad2 100))] := by { rw [had2 100 (Or.inl (Or.inr (Or.inl ⟨by decide, by decide⟩)))]; exact hl }
  refine lv_pop hx hb dX9_call_123 rfl ?_
  refine lv_aload_n hx hb dX9_call_124 rfl (lv_at hl 2 rfl) ?_
  refine lv_iload_n hx hb dX9_call_125 rfl (lv_at hl 0 rfl) ?_
  refine k_callV (n := 1) (As := [.int (sc 39)]) (rest := []) (st1 := .ref (ad2 (4000 + Int32.toNatClampNeg (sc 39))) :: []) (k := 100) (ci := 10) S hG hL (hlv.f (by decide) (by decide)) rfl rfl (c_X9_caseNumbered_ok (upd (upd sc 124 ((sc 124) + 1)) 39 ((sc 39) + 1)) (up2 (up2 (up2 (up2 (up2 (up2 (up2 (up2 (up2 (up2 (up2 (zca r (sc 39).toNatClampNeg) 44 ((sc 39).toNatClampNeg) 0) 41 ((sc 39).toNatClampNeg) 0) 45 ((sc 39).toNatClampNeg) 0) 46 ((sc 39).toNatClampNeg) (-1)) 47 ((sc 39).toNatClampNeg) 0) 48 ((sc 39).toNatClampNeg) 0) 49 ((sc 39).toNatClampNeg) (-1)) 50 ((sc 39).toNatClampNeg) (-1)) 51 ((sc 39).toNatClampNeg) (-1)) 42 ((sc 39).toNatClampNeg) (sc 104)) 43 ((sc 39).toNatClampNeg) (sc 105)) hlv  (sc 39) (hz0) (bnd hz0 h60) (by show (sc 39 + 1).toInt ≤ 60; rw [p1 hz0 (by omega)]; omega)) gX9_call_X9_caseNumbered rfl ⟨rfl, rfl⟩ (by decide +kernel) ⟨Nat.le_of_ble_eq_true rfl, Nat.le_of_ble_eq_true rfl⟩ rfl hl.1 rfl (Nat.le_of_ble_eq_true rfl) dX9_call_126 ⟨Nat.le_of_ble_eq_true rfl, Nat.le_of_ble_eq_true rfl⟩ (rfl) (fun H locs hG hL => ?_)
  refine lv_aload_n hx hb dX9_call_129 rfl (lv_at hl 2 rfl) ?_
  refine k_ga (C := RX9) (T := TX9) (N := 14) (ci := 10) (v := .ref (ad2 102)) S hG (fun w h => List.mem_cons_of_mem _ (List.mem_append_left _ (List.mem_append_left _ (List.mem_append_left _ (List.mem_append_left _ (List.mem_append_left _ (List.mem_append_left _ (List.mem_append_left _ (List.mem_append_right _ h))))))))) 100 (hlv.f (by decide) (by decide)) rfl rfl 1 (by decide) rfl (hts (.fieldLink RX9 19 "SwarmLine" "facts" "LSwarmLine$Facts;") (by decide +kernel)) rfl dX9_call_130 ?_
  refine lv_aload_n hx hb dX9_call_133 rfl (lv_at hl 2 rfl) ?_
  refine k_gi (C := RX9) (T := TX9) (N := 14) (ci := 10) (v := sc 1) S hG (fun w h => List.mem_cons_of_mem _ (List.mem_append_left _ (List.mem_append_left _ (List.mem_append_left _ (List.mem_append_left _ (List.mem_append_left _ (List.mem_append_left _ (List.mem_append_left _ (List.mem_append_right _ h))))))))) 100 (hlv.f (by decide) (by decide)) rfl rfl 12 (by decide) rfl (hts (.fieldLink RX9 71 "SwarmLine" "now" "I") (by decide +kernel)) rfl (rfl) dX9_call_134 ?_
  refine k_callV (n := 2) (As := [.ref (ad2 102), .int (sc 1)]) (rest := []) (st1 := []) (k := 4000 + Int32.toNatClampNeg (sc 39)) (ci := 2) S hG hL (hlv.ca (ix_lt hz0 (bnd hz0 h60))) (kJ_ca (ix_le hz0 (by omega))) rfl (c_X1_melt (upd (upd sc 124 ((sc 124) + 1)) 39 ((sc 39) + 1)) (up2 (up2 (up2 (up2 (up2 (up2 (up2 (up2 (up2 (up2 (up2 (zca r (sc 39).toNatClampNeg) 44 ((sc 39).toNatClampNeg) 0) 41 ((sc 39).toNatClampNeg) 0) 45 ((sc 39).toNatClampNeg) 0) 46 ((sc 39).toNatClampNeg) (-1)) 47 ((sc 39).toNatClampNeg) 0) 48 ((sc 39).toNatClampNeg) 0) 49 ((sc 39).toNatClampNeg) (-1)) 50 ((sc 39).toNatClampNeg) (-1)) 51 ((sc 39).toNatClampNeg) (-1)) 42 ((sc 39).toNatClampNeg) (sc 104)) 43 ((sc 39).toNatClampNeg) (sc 105)) hlv (Int32.toNatClampNeg (sc 39)) (ix_lt hz0 (bnd hz0 h60)) (ix_le hz0 (by omega))  (sc 1) ) gX9_call_X1_melt rfl ⟨rfl, rfl⟩ (by decide +kernel) ⟨Nat.le_of_ble_eq_true rfl, Nat.le_of_ble_eq_true rfl⟩ rfl hl.1 rfl (Nat.le_of_ble_eq_true rfl) dX9_call_137 ⟨Nat.le_of_ble_eq_true rfl, Nat.le_of_ble_eq_true rfl⟩ (rfl) (fun H locs hG hL => ?_)
  refine lv_aload_n hx hb dX9_call_140 rfl (lv_at hl 2 rfl) ?_
  refine lv_dup hx hb dX9_call_141 rfl ?_
  refine k_gi (C := RX9) (T := TX9) (N := 14) (ci := 10) (v := sc 40) S hG (fun w h => List.mem_cons_of_mem _ (List.mem_append_left _ (List.mem_append_left _ (List.mem_append_left _ (List.mem_append_left _ (List.mem_append_left _ (List.mem_append_left _ (List.mem_append_left _ (List.mem_append_right _ h))))))))) 100 (hlv.f (by decide) (by decide)) rfl rfl 11 (by decide) rfl (hts (.fieldLink RX9 67 "SwarmLine" "calls" "I") (by decide +kernel)) rfl (rfl) dX9_call_142 ?_
  refine lv_iconst (v := 1) hx hb dX9_call_145 (by decide) ?_
  refine lv_iadd hx hb dX9_call_146 ?_
  refine k_pi (C := RX9) (T := TX9) (N := 14) (ci := 10) (ty := .int) S hG hL (fun w h => List.mem_cons_of_mem _ (List.mem_append_left _ (List.mem_append_left _ (List.mem_append_left _ (List.mem_append_left _ (List.mem_append_left _ (List.mem_append_left _ (List.mem_append_left _ (List.mem_append_right _ h))))))))) tyX9 tyX9_ok nmX9 100 (hlv.f (by decide) (by decide)) rfl rfl 11 (by decide) rfl (hts (.fieldLink RX9 67 "SwarmLine" "calls" "I") (by decide +kernel)) rfl (by decide +kernel) rfl rfl (Nat.le_of_ble_eq_true rfl) (kw_100_calls _) dX9_call_147 (fun H locs hG hL => ?_)
  refine lv_iload_n hx hb dX9_call_150 rfl (lv_at hl 0 rfl) ?_
  exact mk_iret S.1 hr hlocks (fun j hj => (had2 j (Or.inl (lvC_h hj))).trans (had1 j (lvC_h hj))) hG hL (congrArg (fun z => some (Value.int z)) (by rfl)) (by rfl) (by rfl) dX9_call_151 (by show _ ≤ 2; omega) (by show _ ≤ 84; omega)
