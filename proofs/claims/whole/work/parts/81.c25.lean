/-! the turns are told anew -/
theorem ktC_P (P : (Nat → Int32) → (Nat → Nat → Int32) → Prop) {kn : Int32} (ha : ∀ s r, P s r → P (adS s r) r) (hl : ∀ s r, P s r → P (rlZ kn s r).2.1 (rlZ kn s r).2.2) (hu : ∀ s r v, P s r → P (upd s 111 v) r) : ∀ k s r, P s r → P (ktC kn k s r).2.1 (ktC kn k s r).2.2
  | 0, s, r, h => ha s r h
  | k + 1, s, r, h => by
    have h1 := hl _ _ (ha s r h)
    have h2 : P (ktS kn s r) (rlZ kn (adS s r) r).2.2 := hu _ _ _ h1
    unfold ktC
    by_cases c1 : (rlZ kn (adS s r) r).1 = 0
    · rw [if_pos c1]; exact h1
    · rw [if_neg c1]
      by_cases c2 : kSg 59 (ktS kn s r) (rlZ kn (adS s r) r).2.2 = 0
      · rw [if_pos c2]; exact h2
      · rw [if_neg c2]; exact ktC_P P ha hl hu k _ _ h2
theorem ktC_lo {kn : Int32} {s0 : Nat → Int32} (k : Nat) (s : Nat → Int32) (r : Nat → Nat → Int32) (h : lo100 s0 s) : lo100 s0 (ktC kn k s r).2.1 := ktC_P (fun z _ => lo100 s0 z) (fun _ _ h => h.ad _) (fun z y h f hf => (rlZ_N f (by omega) (by omega) (by omega)).trans (h f hf)) (fun _ _ v h => h.up (by decide) v) k s r h
theorem ktZ_lo {kn : Int32} {s : Nat → Int32} {r : Nat → Nat → Int32} : lo100 s (ktZ kn s r).2.1 := by
  have h : lo100 s (upd (upd s 111 0) 102 0) := ((show lo100 s s from fun _ _ => rfl).up (by decide) _).up (by decide) _
  unfold ktZ
  generalize upd (upd s 111 0) 102 0 = z at h ⊢
  generalize fZ 0 r = y
  exact ktC_lo 10 z y h
theorem ktZ_L {lv : Nat → Prop} {kn : Int32} {s : Nat → Int32} {r : Nat → Nat → Int32} (h : kL lv s) : kL lv (ktZ kn s r).2.1 := by
  unfold kL
  rw [ktZ_lo 6 (by decide), ktZ_lo 14 (by decide), ktZ_lo 26 (by decide), ktZ_lo 39 (by decide)]
  exact h
def ktU (s : Nat → Int32) (r : Nat → Nat → Int32) : Nat → Int32 := ctS (ktZ (s 26) s r).1 (ktZ (s 26) s r).2.1
theorem ktU_n {s : Nat → Int32} {r : Nat → Nat → Int32} {f : Nat} (h : f < 100) (h1 : ¬ f = 61) (h2 : ¬ f = 64) : ktU s r f = s f := by
  have e : ktU s r f = (ktZ (s 26) s r).2.1 f := by simp [ktU, ctS, upd, h1, h2]
  rw [e]; exact ktZ_lo f h
theorem ktU_L {lv : Nat → Prop} {s : Nat → Int32} {r : Nat → Nat → Int32} (h : kL lv s) : kL lv (ktU s r) := by
  unfold kL
  rw [ktU_n (by decide) (by decide) (by decide), ktU_n (by decide) (by decide) (by decide), ktU_n (by decide) (by decide) (by decide), ktU_n (by decide) (by decide) (by decide)]
  exact h
theorem ktU_lv {l0 : Nat → Prop} {s : Nat → Int32} {r : Nat → Nat → Int32} : lvC l0 (ktU s r) = lvC l0 s := by
  unfold lvC
  rw [ktU_n (by decide) (by decide) (by decide), ktU_n (by decide) (by decide) (by decide), ktU_n (by decide) (by decide) (by decide), ktU_n (by decide) (by decide) (by decide)]
def xRo (s : Nat → Int32) (r : Nat → Nat → Int32) : Option String := if (ktZ (s 26) s r).1 = 0 then some "java/lang/IllegalArgumentException" else none
/-! the turns and the draft change places -/
def rtQ (k : Nat) : Nat := if k = 110 then 111 else if k = 111 then 110 else if k = 119 then 120 else if k = 120 then 119 else if k = 121 then 122 else if k = 122 then 121 else if 130 ≤ k ∧ k < 147 then k + 20 else if 150 ≤ k ∧ k < 167 then k - 20 else k
def rtW (s : Nat → Int32) : Nat → Int32 := upd (upd s 52 (s 111)) 111 (s 52)
def rtV (r : Nat → Nat → Int32) : Nat → Nat → Int32 := fun f => if f = 101 then r 102 else if f = 102 then r 101 else if 110 ≤ f ∧ f < 127 then r (f + 20) else if 130 ≤ f ∧ f < 147 then r (f - 20) else r f
theorem rtQ_o {k : Nat} (h : k < 110 ∨ 167 ≤ k) : rtQ k = k := by
  unfold rtQ
  rw [if_neg (by omega), if_neg (by omega), if_neg (by omega), if_neg (by omega), if_neg (by omega), if_neg (by omega), if_neg (by omega), if_neg (by omega)]
theorem rtQ_a {i : Nat} (h : i < 17) : rtQ (130 + i) = 150 + i := by
  unfold rtQ
  rw [if_neg (by omega), if_neg (by omega), if_neg (by omega), if_neg (by omega), if_neg (by omega), if_neg (by omega), if_pos (by omega)]
  omega
theorem rtQ_b {i : Nat} (h : i < 17) : rtQ (150 + i) = 130 + i := by
  unfold rtQ
  rw [if_neg (by omega), if_neg (by omega), if_neg (by omega), if_neg (by omega), if_neg (by omega), if_neg (by omega), if_neg (by omega), if_pos (by omega)]
  omega
theorem rtQ_i (k : Nat) : rtQ (rtQ k) = k := by
  by_cases c : k < 110 ∨ 167 ≤ k
  · rw [rtQ_o c, rtQ_o c]
  · by_cases c1 : k < 130
    · have q : ∀ j, j < 20 → rtQ (rtQ (110 + j)) = 110 + j := by decide +kernel
      have := q (k - 110) (by omega)
      rwa [show 110 + (k - 110) = k by omega] at this
    · have q : ∀ j, j < 37 → rtQ (rtQ (130 + j)) = 130 + j := by decide +kernel
      have := q (k - 130) (by omega)
      rwa [show 130 + (k - 130) = k by omega] at this
theorem rtQ_l {n6 n14 n26 n39 k : Nat} (h : kLv n6 n14 n26 n39 k) : kLv n6 n14 n26 n39 (rtQ k) := by
  have g0 := gCap_b n6
  have g1 := gCap_b n14
  have g2 := gCap_b n26
  have g3 := gCap_b n39
  by_cases c : k < 110 ∨ 167 ≤ k
  · rw [rtQ_o c]; exact h
  · have hk : (110 ≤ k ∧ k < 123) ∨ (130 ≤ k ∧ k < 147) ∨ (150 ≤ k ∧ k < 167) := by
      unfold kLv gKey at h
      omega
    rcases hk with hk | hk | hk
    · have q : ∀ j, j < 13 → 100 ≤ rtQ (110 + j) ∧ rtQ (110 + j) < 123 := by decide +kernel
      have := q (k - 110) (by omega)
      rw [show 110 + (k - 110) = k by omega] at this
      exact Or.inl this
    · have e := rtQ_a (i := k - 130) (by omega)
      rw [show 130 + (k - 130) = k by omega] at e
      rw [e]
      exact Or.inr (Or.inr (Or.inl ⟨by omega, by omega⟩))
    · have e := rtQ_b (i := k - 150) (by omega)
      rw [show 150 + (k - 150) = k by omega] at e
      rw [e]
      exact Or.inr (Or.inl ⟨by omega, by omega⟩)
theorem rt_kEd {ad : Nat → Nat} {eA q n : Nat} : kEd (fun k => ad (rtQ k)) eA q n = kEd ad eA q n := by
  have g := gCap_b n
  show (if n = 0 then eA else ad (rtQ (gKey q n))) = (if n = 0 then eA else ad (gKey q n))
  rw [rtQ_o (Or.inr (by unfold gKey; omega))]
theorem rt_kRf {ad : Nat → Nat} {b n : Nat} (h : 167 ≤ b) : kRf (fun k => ad (rtQ k)) b n = kRf ad b n := by
  funext i
  show (if i < n then some (ad (rtQ (b + i))) else none) = (if i < n then some (ad (b + i)) else none)
  rw [rtQ_o (Or.inr (by omega))]
theorem rt_130 {ad : Nat → Nat} : kRf (fun k => ad (rtQ k)) 130 17 = kRf ad 150 17 := by
  funext i
  show (if i < 17 then some (ad (rtQ (130 + i))) else none) = (if i < 17 then some (ad (150 + i)) else none)
  by_cases c : i < 17
  · rw [if_pos c, if_pos c, rtQ_a c]
  · rw [if_neg c, if_neg c]
theorem rt_150 {ad : Nat → Nat} : kRf (fun k => ad (rtQ k)) 150 17 = kRf ad 130 17 := by
  funext i
  show (if i < 17 then some (ad (rtQ (150 + i))) else none) = (if i < 17 then some (ad (130 + i)) else none)
  by_cases c : i < 17
  · rw [if_pos c, if_pos c, rtQ_b c]
  · rw [if_neg c, if_neg c]
theorem rt_J {ce0 : Nat → va_E} {ad : Nat → Nat} {eA : Nat} {cI cB cO cR : ClassId} {s : Nat → Int32} {r : Nat → Nat → Int32} {k : Nat} (h : k < 100 ∨ kLv (s 6).toNatClampNeg (s 14).toNatClampNeg (s 26).toNatClampNeg (s 39).toNatClampNeg k) (h100 : ¬ k = 100) : kJ ce0 (fun k => ad (rtQ k)) eA cI cB cO cR (rtW s) (rtV r) k = kJ ce0 ad eA cI cB cO cR s r (rtQ k) := by
  have g0 := gCap_b (s 6).toNatClampNeg
  have g1 := gCap_b (s 14).toNatClampNeg
  have g2 := gCap_b (s 26).toNatClampNeg
  have g3 := gCap_b (s 39).toNatClampNeg
  by_cases c0 : k < 100
  · rw [rtQ_o (Or.inl (by omega))]
    unfold kJ
    rw [if_pos c0, if_pos c0]
  · by_cases c1 : k < 123
    · have hk : k = 101 ∨ k = 102 ∨ k = 103 ∨ k = 104 ∨ k = 105 ∨ k = 106 ∨ k = 107 ∨ k = 108 ∨ k = 109 ∨ k = 110 ∨ k = 111 ∨ k = 112 ∨ k = 113 ∨ k = 114 ∨ k = 115 ∨ k = 116 ∨ k = 117 ∨ k = 118 ∨ k = 119 ∨ k = 120 ∨ k = 121 ∨ k = 122 := by omega
      rcases hk with e | e | e | e | e | e | e | e | e | e | e | e | e | e | e | e | e | e | e | e | e | e <;> subst e
      · rfl
      · rfl
      · rfl
      · rfl
      · show Sum.inr (0, [Value.int (s 121), .ref (kEd (fun k => ad (rtQ k)) eA 0 (s 6).toNatClampNeg), .int (s 6)]) = _
        rw [rt_kEd]; rfl
      · show Sum.inr (0, [Value.int (s 122), .ref (kEd (fun k => ad (rtQ k)) eA 1 (s 14).toNatClampNeg), .int (s 14)]) = _
        rw [rt_kEd]; rfl
      · show Sum.inr (0, [Value.int (s 123), .ref (kEd (fun k => ad (rtQ k)) eA 2 (s 26).toNatClampNeg), .int (s 26)]) = _
        rw [rt_kEd]; rfl
      · show Sum.inr (0, [Value.int (s 124), .ref (kEd (fun k => ad (rtQ k)) eA 3 (s 39).toNatClampNeg), .int (s 39)]) = _
        rw [rt_kEd]; rfl
      · rfl
      · rfl
      · rfl
      · rfl
      · rfl
      · rfl
      · rfl
      · rfl
      · rfl
      · rfl
      · show aRf cR 17 (kRf (fun k => ad (rtQ k)) 130 17) = _
        rw [rt_130]; rfl
      · show aRf cR 17 (kRf (fun k => ad (rtQ k)) 150 17) = _
        rw [rt_150]; rfl
      · rfl
      · rfl
    · have hk : (130 ≤ k ∧ k < 147) ∨ (150 ≤ k ∧ k < 167) ∨ (500 ≤ k ∧ k < 1000) ∨ 1000 ≤ k := by
        rcases h with h | h
        · omega
        · unfold kLv gKey at h
          omega
      rcases hk with hk | hk | hk | hk
      · obtain ⟨i, rfl⟩ : ∃ i, k = 130 + i := ⟨k - 130, by omega⟩
        have e : rtV r (110 + i) = r (130 + i) := by
          unfold rtV
          rw [if_neg (by omega), if_neg (by omega), if_pos (by omega), show 110 + i + 20 = 130 + i by omega]
        rw [rtQ_a (by omega), kJ_rd (by omega), kJ_rw (by omega), e]
      · obtain ⟨i, rfl⟩ : ∃ i, k = 150 + i := ⟨k - 150, by omega⟩
        have e : rtV r (130 + i) = r (110 + i) := by
          unfold rtV
          rw [if_neg (by omega), if_neg (by omega), if_neg (by omega), if_pos (by omega), show 130 + i - 20 = 110 + i by omega]
        rw [rtQ_b (by omega), kJ_rw (by omega), kJ_rd (by omega), e]
      · rw [rtQ_o (Or.inr (by omega))]
        unfold kJ
        simp only [show ¬ k < 100 by omega, show ¬ k < 130 by omega, show ¬ k < 200 by omega, show k < 1000 by omega, if_false, if_true]
        unfold kLa
        rw [rt_kRf (by decide), rt_kRf (by decide), rt_kRf (by decide), rt_kRf (by decide)]
        rfl
      · rw [rtQ_o (Or.inr (by omega))]
        unfold kJ
        simp only [show ¬ k < 100 by omega, show ¬ k < 130 by omega, show ¬ k < 200 by omega, show ¬ k < 1000 by omega, if_false]
        rfl
def rtF (ad : Nat → Nat) (s : Nat → Int32) : List Value := [.ref (ad 101), .ref (ad 102), .ref (ad 103), .ref (ad 104), .ref (ad 105), .ref (ad 106), .ref (ad 107), .ref (ad 108), .ref (ad 109), .ref (ad 111), .ref (ad 110), .int (s 40), .int (s 1), .int (s 64)]
theorem rt_W {D : va_G} {Hb : Heap} {l0 : Nat → Prop} {ce0 : Nat → va_E} {ad : Nat → Nat} {eA : Nat} {cI cB cO cR : ClassId} {s : Nat → Int32} {r : Nat → Nat → Int32} {H : Heap} (hG : gW D Hb (lvC l0 s) ad (va_up (kJ ce0 ad eA cI cB cO cR s r) 100 (.inr (10, rtF ad s))) H) : gW D Hb (lvC l0 (rtW s)) (fun k => ad (rtQ k)) (kJ ce0 (fun k => ad (rtQ k)) eA cI cB cO cR (rtW s) (rtV r)) H := by
  have hl : ∀ k, lvC l0 (rtW s) k → lvC l0 s k := fun _ h => h
  refine hG.perm rtQ (fun k hk => ?_) (fun k j _ _ e => by rw [← rtQ_i k, e, rtQ_i]) (fun k hk => ?_)
  · rcases hl k hk with h | h
    · rw [rtQ_o (Or.inl (by omega))]; exact Or.inl h
    · exact Or.inr (rtQ_l h)
  · by_cases c : k = 100
    · subst c
      show _ = va_up _ 100 _ 100
      rw [va_up_self]
      rfl
    · have hn : ¬ rtQ k = 100 := fun z => c (by rw [← rtQ_i k, z]; rfl)
      rw [va_up_ne _ _ hn]
      exact rt_J ((hl k hk).elim (fun h => Or.inl h.1) Or.inr) c

set_option maxHeartbeats 1600000 in
set_option maxRecDepth 100000 in
theorem c_X9_rota_bad {l : Launch} {D : va_G} {cI cZ cB cO cR cJ : ClassId} {Hb : Heap} {K : kTx} {lv : Nat → Prop} {ad : Nat → Nat} {ce0 : Nat → va_E} (hst : l.stackTraces = false) (s : Nat → Int32) (r : Nat → Nat → Int32) (hlv : kL lv s)  (hB : 0 ≤ (s 61).toInt ∧ (s 61).toInt ≤ 400) (hT : hTp r) (hne : ¬ xRo s r = none) : xMet l D cI cZ cB cO cR cJ Hb K lv ad ce0 yX9_rota wsX9_rota 8 175 1 [.ref (ad 100)] s r (xRo s r) (some (.int (0))) s r (ktU s r) ((ktZ (s 26) s r).2.2) := by
  refine vx_ofW (cc := cX9_rota) (maxL := 3) (ret := (some .int)) (by decide) rfl ?_
  intro p0 e0 s0 m0 args below meth c0 s₁ B hml hout hv
  obtain ⟨rfl, hG, hK, hE⟩ := hv
  have hx := B.exec
  have hb := B.bytes
  have hr := B.returns
  have hts := atoms_spec (ws := wsX9_rota) B.pre
  have hown : s0.vm.findClass RX9 = some m0.cls := findClass_of_methodNamed B.named
  have hlocks := B.notSynchronized
  have S : kX p0 m0 c0 cX9_rota 3 s0 _ wsX9_rota RX9 D (tyL cI cZ cB cO cR cJ) Hb K := ⟨⟨hx, hb, hml, hown, hts⟩, hK, hE⟩
  have hL : gL Hb [] := gL.nil
  have hH := hG.2.2.2.2
  have hl := lv_entry ([.ref (ad 100)]) (n := 3) (Nat.le_of_ble_eq_true rfl)
  rw [lg_entry_eq]
  generalize (lg_sl ([.ref (ad 100)]) ++ List.replicate (3 - (lg_sl ([.ref (ad 100)])).length) Slot.unset).toArray = ls at hl ⊢
  have hl : lv_has ls 3 [(0, .ref (ad 100))] := hl
  have hlvR : kL lv (ktZ (s 26) s r).2.1 := ktZ_L hlv
  refine lv_aload_n hx hb dX9_rota_0 rfl (lv_at hl 0 rfl) ?_
  refine k_ga (C := RX9) (T := TX9) (N := 14) (ci := 10) (v := .ref (ad 111)) S hG (fun w h => List.mem_cons_of_mem _ (List.mem_append_left _ (List.mem_append_left _ (List.mem_append_left _ (List.mem_append_left _ (List.mem_append_right _ h)))))) 100 (hlv.f (by decide) (by decide)) rfl rfl 10 (by decide) rfl (hts (.fieldLink RX9 64 "SwarmLine" "draft" "LSwarmLine$Turns;") (by decide +kernel)) rfl dX9_rota_1 ?_
  refine lv_aload_n hx hb dX9_rota_4 rfl (lv_at hl 0 rfl) ?_
  refine k_ga (C := RX9) (T := TX9) (N := 14) (ci := 10) (v := .ref (ad 101)) S hG (fun w h => List.mem_cons_of_mem _ (List.mem_append_left _ (List.mem_append_left _ (List.mem_append_left _ (List.mem_append_left _ (List.mem_append_right _ h)))))) 100 (hlv.f (by decide) (by decide)) rfl rfl 0 (by decide) rfl (hts (.fieldLink RX9 10 "SwarmLine" "tape" "LSwarmLine$Tape;") (by decide +kernel)) rfl dX9_rota_5 ?_
  refine lv_aload_n hx hb dX9_rota_8 rfl (lv_at hl 0 rfl) ?_
  refine k_ga (C := RX9) (T := TX9) (N := 14) (ci := 10) (v := .ref (ad 107)) S hG (fun w h => List.mem_cons_of_mem _ (List.mem_append_left _ (List.mem_append_left _ (List.mem_append_left _ (List.mem_append_left _ (List.mem_append_right _ h)))))) 100 (hlv.f (by decide) (by decide)) rfl rfl 6 (by decide) rfl (hts (.fieldLink RX9 47 "SwarmLine" "keepers" "Ljava/util/ArrayList;") (by decide +kernel)) rfl dX9_rota_9 ?_
  refine k_callV (n := 0) (As := []) (rest := [.ref (ad 101), .ref (ad 111)]) (st1 := .int (s 26) :: [.ref (ad 101), .ref (ad 111)]) (k := 107) (ci := 0) S hG hL (hlv.f (by decide) (by decide)) rfl rfl (c_size2 s r hlv   ) gX9_rota_Jx4a65c_size_8abf5 rfl ⟨rfl, rfl⟩ (by decide +kernel) ⟨Nat.le_of_ble_eq_true rfl, Nat.le_of_ble_eq_true rfl⟩ rfl hl.1 rfl (Nat.le_of_ble_eq_true rfl) dX9_rota_12 ⟨Nat.le_of_ble_eq_true rfl, Nat.le_of_ble_eq_true rfl⟩ (rfl) (fun H locs hG hL => ?_)
  refine k_callV (n := 2) (As := [.ref (ad 101), .int (s 26)]) (rest := []) (st1 := .int ((ktZ (s 26) s r).1) :: []) (k := 111) (ci := 9) S hG hL (hlv.f (by decide) (by decide)) rfl rfl (c_X8_readFrom s r hlv   (s 26) (hB) (hT)) gX9_rota_X8_readFrom rfl ⟨rfl, rfl⟩ (by decide +kernel) ⟨Nat.le_of_ble_eq_true rfl, Nat.le_of_ble_eq_true rfl⟩ rfl hl.1 rfl (Nat.le_of_ble_eq_true rfl) dX9_rota_15 ⟨Nat.le_of_ble_eq_true rfl, Nat.le_of_ble_eq_true rfl⟩ (rfl) (fun H locs hG hL => ?_)
  refine lv_istore_n (lv' := [(1, .int ((ktZ (s 26) s r).1)), (0, .ref (ad 100))]) hx hb dX9_rota_18 rfl hl (by decide) rfl (fun ls hl => ?_)
  refine lv_aload_n hx hb dX9_rota_19 rfl (lv_at hl 1 rfl) ?_
  refine lv_iload_n hx hb dX9_rota_20 rfl (lv_at hl 0 rfl) ?_
  refine k_callV (n := 1) (As := [.int ((ktZ (s 26) s r).1)]) (rest := []) (st1 := []) (k := 100) (ci := 10) S hG hL (hlv.f (by decide) (by decide)) rfl rfl (c_X9_closeText ((ktZ (s 26) s r).2.1) ((ktZ (s 26) s r).2.2) hlvR  ((ktZ (s 26) s r).1) (by rw [ktZ_lo 61 (by decide)]; exact hB.1)) gX9_rota_X9_closeText rfl ⟨rfl, rfl⟩ (by decide +kernel) ⟨Nat.le_of_ble_eq_true rfl, Nat.le_of_ble_eq_true rfl⟩ rfl hl.1 rfl (Nat.le_of_ble_eq_true rfl) dX9_rota_21 ⟨Nat.le_of_ble_eq_true rfl, Nat.le_of_ble_eq_true rfl⟩ (rfl) (fun H locs hG hL => ?_)
  have hG : gW D Hb lv ad (kJ ce0 ad K.2.2.1 cI cB cO cR (ktU s r) (ktZ (s 26) s r).2.2) H := hG
  refine lv_iload_n hx hb dX9_rota_24 rfl (lv_at hl 0 rfl) ?_
  refine lv_if_ne (tgt := 38) hx hb dX9_rota_25 (by decide) (fun c25 => absurd c25 (fun z9 => hne (by simp only [xRo, eq_false z9, if_false]))) (fun c25 => ?_)
  exact k_throw (cls := "java/lang/IllegalArgumentException") (text := "the text is wrong") (i := 17) S hst hH hG hL (by decide +kernel) (hts (.classLink RX9 108 "java/lang/IllegalArgumentException") (by decide +kernel)) (hts (.initialized "java/lang/IllegalArgumentException") (by decide +kernel)) rfl (fun w h => List.mem_cons_of_mem _ (List.mem_append_right _ h)) (by decide +kernel) (by decide +kernel) (by decide +kernel) hl.1 dX9_rota_28 dX9_rota_31 dX9_rota_32 dX9_rota_34 dX9_rota_37 hout (Nat.le_of_ble_eq_true rfl) (Nat.le_of_ble_eq_true rfl) (Nat.le_of_ble_eq_true rfl) (Nat.le_of_ble_eq_true rfl) hlocks (by simp only [xRo, eq_true c25, if_true, if_false]) (congr (congrArg (kJ ce0 ad K.2.2.1 cI cB cO cR) (by rfl)) (by rfl)) (Nat.le_of_ble_eq_true rfl) (Nat.le_of_ble_eq_true rfl)

set_option maxHeartbeats 1600000 in
set_option maxRecDepth 100000 in
theorem c_X9_rota_ok {l : Launch} {D : va_G} {cI cZ cB cO cR cJ : ClassId} {Hb : Heap} {K : kTx} {l0 : Nat → Prop} {ad : Nat → Nat} {ce0 : Nat → va_E} (s : Nat → Int32) (r : Nat → Nat → Int32)  (hB : 0 ≤ (s 61).toInt ∧ (s 61).toInt ≤ 400) (hT : hTp r) (hok : ¬ (ktZ (s 26) s r).1 = 0) (sc : Nat → Int32) (hsc : sc = ktU s r) (rc : Nat → Nat → Int32) (hrc : rc = (ktZ (s 26) s r).2.2) : Met l yX9_rota wsX9_rota { frames := 8, cells := 0, slots := 0, locals := 175 } (va_Pc [.ref (ad 100)] (kP D (tyL cI cZ cB cO cR cJ) Hb K (lvC l0 s) ad (kJ ce0 ad K.2.2.1 cI cB cO cR s r))) (mQ D Hb l0 ad (lvA l0) (some (.int (sc 111))) ce0 K.2.2.1 cI cB cO cR (rtW sc) (rtV rc)) 0 0 (gA Hb) := by
  refine Met.ofW (cc := cX9_rota) (maxL := 3) (ret := (some .int)) (by decide) rfl ?_
  intro p0 e0 s0 m0 args below meth c0 s₁ B hml hv
  obtain ⟨rfl, hG, hK, hE⟩ := hv
  have hx := B.exec
  have hb := B.bytes
  have hr := B.returns
  have hts := atoms_spec (ws := wsX9_rota) B.pre
  have hown : s0.vm.findClass RX9 = some m0.cls := findClass_of_methodNamed B.named
  have hlocks := B.notSynchronized
  have S : kX p0 m0 c0 cX9_rota 3 s0 _ wsX9_rota RX9 D (tyL cI cZ cB cO cR cJ) Hb K := ⟨⟨hx, hb, hml, hown, hts⟩, hK, hE⟩
  have hL : gL Hb [] := gL.nil
  have hH := hG.2.2.2.2
  have hl := lv_entry ([.ref (ad 100)]) (n := 3) (Nat.le_of_ble_eq_true rfl)
  rw [lg_entry_eq]
  generalize (lg_sl ([.ref (ad 100)]) ++ List.replicate (3 - (lg_sl ([.ref (ad 100)])).length) Slot.unset).toArray = ls at hl ⊢
  have hl : lv_has ls 3 [(0, .ref (ad 100))] := hl
  have hlv : kL (lvC l0 s) s := lvC_L
  have hlvR : kL (lvC l0 s) (ktZ (s 26) s r).2.1 := ktZ_L hlv
  refine lv_aload_n hx hb dX9_rota_0 rfl (lv_at hl 0 rfl) ?_
  refine k_ga (C := RX9) (T := TX9) (N := 14) (ci := 10) (v := .ref (ad 111)) S hG (fun w h => List.mem_cons_of_mem _ (List.mem_append_left _ (List.mem_append_left _ (List.mem_append_left _ (List.mem_append_left _ (List.mem_append_right _ h)))))) 100 (hlv.f (by decide) (by decide)) rfl rfl 10 (by decide) rfl (hts (.fieldLink RX9 64 "SwarmLine" "draft" "LSwarmLine$Turns;") (by decide +kernel)) rfl dX9_rota_1 ?_
  refine lv_aload_n hx hb dX9_rota_4 rfl (lv_at hl 0 rfl) ?_
  refine k_ga (C := RX9) (T := TX9) (N := 14) (ci := 10) (v := .ref (ad 101)) S hG (fun w h => List.mem_cons_of_mem _ (List.mem_append_left _ (List.mem_append_left _ (List.mem_append_left _ (List.mem_append_left _ (List.mem_append_right _ h)))))) 100 (hlv.f (by decide) (by decide)) rfl rfl 0 (by decide) rfl (hts (.fieldLink RX9 10 "SwarmLine" "tape" "LSwarmLine$Tape;") (by decide +kernel)) rfl dX9_rota_5 ?_
  refine lv_aload_n hx hb dX9_rota_8 rfl (lv_at hl 0 rfl) ?_
  refine k_ga (C := RX9) (T := TX9) (N := 14) (ci := 10) (v := .ref (ad 107)) S hG (fun w h => List.mem_cons_of_mem _ (List.mem_append_left _ (List.mem_append_left _ (List.mem_append_left _ (List.mem_append_left _ (List.mem_append_right _ h)))))) 100 (hlv.f (by decide) (by decide)) rfl rfl 6 (by decide) rfl (hts (.fieldLink RX9 47 "SwarmLine" "keepers" "Ljava/util/ArrayList;") (by decide +kernel)) rfl dX9_rota_9 ?_
  refine k_callV (n := 0) (As := []) (rest := [.ref (ad 101), .ref (ad 111)]) (st1 := .int (s 26) :: [.ref (ad 101), .ref (ad 111)]) (k := 107) (ci := 0) S hG hL (hlv.f (by decide) (by decide)) rfl rfl (c_size2 s r hlv   ) gX9_rota_Jx4a65c_size_8abf5 rfl ⟨rfl, rfl⟩ (by decide +kernel) ⟨Nat.le_of_ble_eq_true rfl, Nat.le_of_ble_eq_true rfl⟩ rfl hl.1 rfl (Nat.le_of_ble_eq_true rfl) dX9_rota_12 ⟨Nat.le_of_ble_eq_true rfl, Nat.le_of_ble_eq_true rfl⟩ (rfl) (fun H locs hG hL => ?_)
  refine k_callV (n := 2) (As := [.ref (ad 101), .int (s 26)]) (rest := []) (st1 := .int ((ktZ (s 26) s r).1) :: []) (k := 111) (ci := 9) S hG hL (hlv.f (by decide) (by decide)) rfl rfl (c_X8_readFrom s r hlv   (s 26) (hB) (hT)) gX9_rota_X8_readFrom rfl ⟨rfl, rfl⟩ (by decide +kernel) ⟨Nat.le_of_ble_eq_true rfl, Nat.le_of_ble_eq_true rfl⟩ rfl hl.1 rfl (Nat.le_of_ble_eq_true rfl) dX9_rota_15 ⟨Nat.le_of_ble_eq_true rfl, Nat.le_of_ble_eq_true rfl⟩ (rfl) (fun H locs hG hL => ?_)
  refine lv_istore_n (lv' := [(1, .int ((ktZ (s 26) s r).1)), (0, .ref (ad 100))]) hx hb dX9_rota_18 rfl hl (by decide) rfl (fun ls hl => ?_)
  refine lv_aload_n hx hb dX9_rota_19 rfl (lv_at hl 1 rfl) ?_
  refine lv_iload_n hx hb dX9_rota_20 rfl (lv_at hl 0 rfl) ?_
  refine k_callV (n := 1) (As := [.int ((ktZ (s 26) s r).1)]) (rest := []) (st1 := []) (k := 100) (ci := 10) S hG hL (hlv.f (by decide) (by decide)) rfl rfl (c_X9_closeText ((ktZ (s 26) s r).2.1) ((ktZ (s 26) s r).2.2) hlvR  ((ktZ (s 26) s r).1) (by rw [ktZ_lo 61 (by decide)]; exact hB.1)) gX9_rota_X9_closeText rfl ⟨rfl, rfl⟩ (by decide +kernel) ⟨Nat.le_of_ble_eq_true rfl, Nat.le_of_ble_eq_true rfl⟩ rfl hl.1 rfl (Nat.le_of_ble_eq_true rfl) dX9_rota_21 ⟨Nat.le_of_ble_eq_true rfl, Nat.le_of_ble_eq_true rfl⟩ (rfl) (fun H locs hG hL => ?_)
  have hG : gW D Hb (lvC l0 sc) ad (kJ ce0 ad K.2.2.1 cI cB cO cR sc rc) H := (by { rw [hsc, hrc, ktU_lv]; exact hG }); have hlv : kL (lvC l0 sc) sc := lvC_L
  refine lv_iload_n hx hb dX9_rota_24 rfl (lv_at hl 0 rfl) ?_
  refine lv_if_ne (tgt := 38) hx hb dX9_rota_25 (by decide) (fun c25 => ?_) (fun c25 => absurd c25 (hok))
  refine lv_aload_n hx hb dX9_rota_38 rfl (lv_at hl 1 rfl) ?_
  refine k_ga (C := RX9) (T := TX9) (N := 14) (ci := 10) (v := .ref (ad 110)) S hG (fun w h => List.mem_cons_of_mem _ (List.mem_append_left _ (List.mem_append_left _ (List.mem_append_left _ (List.mem_append_left _ (List.mem_append_right _ h)))))) 100 (hlv.f (by decide) (by decide)) rfl rfl 9 (by decide) rfl (hts (.fieldLink RX9 60 "SwarmLine" "turns" "LSwarmLine$Turns;") (by decide +kernel)) rfl dX9_rota_39 ?_
  refine lv_astore_n (lv' := [(2, .ref (ad 110)), (1, .int ((ktZ (s 26) s r).1)), (0, .ref (ad 100))]) hx hb dX9_rota_42 rfl hl (by decide) rfl (fun ls hl => ?_)
  refine lv_aload_n hx hb dX9_rota_43 rfl (lv_at hl 2 rfl) ?_
  refine lv_aload_n hx hb dX9_rota_44 rfl (lv_at hl 2 rfl) ?_
  refine k_ga (C := RX9) (T := TX9) (N := 14) (ci := 10) (v := .ref (ad 111)) S hG (fun w h => List.mem_cons_of_mem _ (List.mem_append_left _ (List.mem_append_left _ (List.mem_append_left _ (List.mem_append_left _ (List.mem_append_right _ h)))))) 100 (hlv.f (by decide) (by decide)) rfl rfl 10 (by decide) rfl (hts (.fieldLink RX9 64 "SwarmLine" "draft" "LSwarmLine$Turns;") (by decide +kernel)) rfl dX9_rota_45 ?_
  refine k_pi (C := RX9) (T := TX9) (N := 14) (ci := 10) (ty := .object "SwarmLine$Turns") (v := .ref (ad 111)) S hG hL (fun w h => List.mem_cons_of_mem _ (List.mem_append_left _ (List.mem_append_left _ (List.mem_append_left _ (List.mem_append_left _ (List.mem_append_right _ h)))))) tyX9 tyX9_ok nmX9 100 (hlv.f (by decide) (by decide)) rfl rfl 9 (by decide) rfl (hts (.fieldLink RX9 60 "SwarmLine" "turns" "LSwarmLine$Turns;") (by decide +kernel)) rfl (by decide +kernel) rfl rfl (Nat.le_of_ble_eq_true rfl) rfl dX9_rota_48 (fun H locs hG hL => ?_)
  refine lv_aload_n hx hb dX9_rota_51 rfl (lv_at hl 2 rfl) ?_
  refine lv_aload_n hx hb dX9_rota_52 rfl (lv_at hl 0 rfl) ?_
  refine k_pi (C := RX9) (T := TX9) (N := 14) (ci := 10) (ty := .object "SwarmLine$Turns") (v := .ref (ad 110)) S hG hL (fun w h => List.mem_cons_of_mem _ (List.mem_append_left _ (List.mem_append_left _ (List.mem_append_left _ (List.mem_append_left _ (List.mem_append_right _ h)))))) tyX9 tyX9_ok nmX9 100 (hlv.f (by decide) (by decide)) (va_up_self _ _ _) rfl 10 (by decide) rfl (hts (.fieldLink RX9 64 "SwarmLine" "draft" "LSwarmLine$Turns;") (by decide +kernel)) rfl (by decide +kernel) rfl rfl (Nat.le_of_ble_eq_true rfl) rfl dX9_rota_53 (fun H locs hG hL => ?_)
  rw [va_up_tw] at hG
  have hG : gW D Hb (lvC l0 sc) ad (va_up (kJ ce0 ad K.2.2.1 cI cB cO cR sc rc) 100 (.inr (10, rtF ad sc))) H := hG
  refine lv_aload_n hx hb dX9_rota_56 rfl (lv_at hl 2 rfl) ?_
  refine k_ga (C := RX9) (T := TX9) (N := 14) (ci := 10) (v := .ref (ad 111)) S hG (fun w h => List.mem_cons_of_mem _ (List.mem_append_left _ (List.mem_append_left _ (List.mem_append_left _ (List.mem_append_left _ (List.mem_append_right _ h)))))) 100 (hlv.f (by decide) (by decide)) (va_up_self _ _ _) rfl 9 (by decide) rfl (hts (.fieldLink RX9 60 "SwarmLine" "turns" "LSwarmLine$Turns;") (by decide +kernel)) rfl dX9_rota_57 ?_
  refine k_giN (C := RX8) (T := TX8) (N := 3) (ci := 9) (v := sc 111) S hG (fun w h => List.mem_cons_of_mem _ (List.mem_append_left _ (List.mem_append_left _ (List.mem_append_left _ (List.mem_append_right _ h))))) 111 (hlv.f (by decide) (by decide)) ((va_up_ne _ _ (by decide)).trans rfl) rfl 2 (by decide) rfl (by decide +kernel) rfl rfl dX9_rota_60 ?_
  exact mk_iret S.1 hr hlocks (fun j hj => congrArg ad (rtQ_o (Or.inl (by { rcases hj with hj | hj <;> omega })))) (rt_W hG) hL rfl rfl rfl dX9_rota_63 (by show _ ≤ 0; omega) (by show _ ≤ 0; omega)
