/-! the facts of a text; the swarm's origin; sending; how many at once -/
def rdB (now : Int32) (s : Nat → Int32) (r : Nat → Nat → Int32) : FS :=
  if kIw 12 s r = 0 then
    (if kIw 13 s r = 0 then
      (if kIw 14 s r = 0 then
        (if kIw 15 s r = 0 then
          (if kIw 16 s r = 0 then (0, upd s 109 (if s 109 = 0 then 0 else 1)) else if s 109 = 0 then (1, upd s 109 1) else (0, upd s 109 1))
        else if s 108 = 0 then ((if (rfX 108 1 7 s r).1 = 0 then 0 else 1), (rfX 108 1 7 s r).2) else (0, s))
      else if s 107 = -1 then ((if (rfX 107 0 now s r).1 = 0 then 0 else 1), (rfX 107 0 now s r).2) else (0, s))
    else if s 106 = 0 then ((if (rfX 106 1 9 s r).1 = 0 then 0 else 1), (rfX 106 1 9 s r).2) else (0, s))
  else if s 104 = -1 then ((if (rpX s r).1 = 0 then 0 else 1), (rpX s r).2) else (0, s)
theorem rfX_R {f : Nat} {lo hi : Int32} {s : Nat → Int32} {r : Nat → Nat → Int32} (h : tR s) (h1 : ¬ f = 61) (h2 : ¬ f = 102) : tR (rfX f lo hi s r).2 := tR_up (ad_R h) h1 h2 _
theorem rpX_R {s : Nat → Int32} {r : Nat → Nat → Int32} (h : tR s) : tR (rpX s r).2 := by
  unfold rpX
  split
  · exact tR_up (ad_R h) (by decide) (by decide) _
  · exact rfX_R (tR_up (ad_R h) (by decide) (by decide) _) (by decide) (by decide)
theorem rdB_P (P : (Nat → Int32) → Prop) {now : Int32} {s : Nat → Int32} {r : Nat → Nat → Int32} (h0 : P s) (h1 : P (rpX s r).2) (h2 : P (rfX 106 1 9 s r).2) (h3 : P (rfX 107 0 now s r).2) (h4 : P (rfX 108 1 7 s r).2) (h5 : ∀ v, P (upd s 109 v)) : P (rdB now s r).2 := by
  unfold rdB
  by_cases c1 : kIw 12 s r = 0
  · rw [if_pos c1]
    by_cases c2 : kIw 13 s r = 0
    · rw [if_pos c2]
      by_cases c3 : kIw 14 s r = 0
      · rw [if_pos c3]
        by_cases c4 : kIw 15 s r = 0
        · rw [if_pos c4]
          by_cases c5 : kIw 16 s r = 0
          · rw [if_pos c5]; exact h5 _
          · rw [if_neg c5]
            by_cases c6 : s 109 = 0
            · rw [if_pos c6]; exact h5 _
            · rw [if_neg c6]; exact h5 _
        · rw [if_neg c4]
          by_cases c6 : s 108 = 0
          · rw [if_pos c6]; exact h4
          · rw [if_neg c6]; exact h0
      · rw [if_neg c3]
        by_cases c6 : s 107 = -1
        · rw [if_pos c6]; exact h3
        · rw [if_neg c6]; exact h0
    · rw [if_neg c2]
      by_cases c6 : s 106 = 0
      · rw [if_pos c6]; exact h2
      · rw [if_neg c6]; exact h0
  · rw [if_neg c1]
    by_cases c6 : s 104 = -1
    · rw [if_pos c6]; exact h1
    · rw [if_neg c6]; exact h0
theorem rdB_R {now : Int32} {s : Nat → Int32} {r : Nat → Nat → Int32} (h : tR s) : tR (rdB now s r).2 := rdB_P tR h (rpX_R h) (rfX_R h (by decide) (by decide)) (rfX_R h (by decide) (by decide)) (rfX_R h (by decide) (by decide)) (fun v => tR_up h (by decide) (by decide) v)
theorem rfX_L {lv : Nat → Prop} {f : Nat} {lo hi : Int32} {s : Nat → Int32} {r : Nat → Nat → Int32} (h : kL lv s) (hf : 100 ≤ f) : kL lv (rfX f lo hi s r).2 := (h.ad r).up hf _
theorem rpX_L {lv : Nat → Prop} {s : Nat → Int32} {r : Nat → Nat → Int32} (h : kL lv s) : kL lv (rpX s r).2 := by
  unfold rpX
  split
  · exact (h.ad r).up (by decide) _
  · exact rfX_L ((h.ad r).up (by decide) _) (by decide)
theorem rdB_L {lv : Nat → Prop} {now : Int32} {s : Nat → Int32} {r : Nat → Nat → Int32} (h : kL lv s) : kL lv (rdB now s r).2 := rdB_P (kL lv) h (rpX_L h) (rfX_L h (by decide)) (rfX_L h (by decide)) (rfX_L h (by decide)) (fun v => h.up (by decide) v)
def rdG (now : Int32) (r : Nat → Nat → Int32) : Nat → (Nat → Int32) → FS
  | 0, s => (0, adS s r)
  | k + 1, s => if (rdB now (adS s r) r).1 = 0 then (0, (rdB now (adS s r) r).2) else if kSg 44 (adS (rdB now (adS s r) r).2 r) r = 0 then ((if kAe (adS (rdB now (adS s r) r).2 r) = 0 then 0 else if adS (rdB now (adS s r) r).2 r 104 = -1 then 0 else 1), adS (rdB now (adS s r) r).2 r) else rdG now r k (adS (rdB now (adS s r) r).2 r)
def fgS (s : Nat → Int32) : Nat → Int32 := upd (upd (upd (upd (upd (upd s 104 (-1)) 105 (-1)) 106 0) 107 (-1)) 108 0) 109 0
def rdZ (now : Int32) (s : Nat → Int32) (r : Nat → Nat → Int32) : FS := rdG now r 5 (upd (fgS s) 102 0)

set_option maxHeartbeats 800000 in
set_option maxRecDepth 100000 in
theorem c_X2_readFact {l : Launch} {D : va_G} {cI cZ cB cO cR cJ : ClassId} {Hb : Heap} {K : kTx} {lv : Nat → Prop} {ad : Nat → Nat} {ce0 : Nat → va_E} (s : Nat → Int32) (r : Nat → Nat → Int32) (hlv : kL lv s) (now : Int32) (hB : tW s) (hT : hTp r) : kMet l D cI cZ cB cO cR cJ Hb K lv ad ce0 yX2_readFact wsX2_readFact 5 107 [.ref (ad 102), .ref (ad 101), .int now] s r (some (.int ((rdB now s r).1))) ((rdB now s r).2) r := by
  refine Met.ofW (cc := cX2_readFact) (maxL := 4) (ret := (some .boolean)) (by decide) rfl ?_
  intro p0 e0 s0 m0 args below meth c0 s₁ B hml hv
  obtain ⟨rfl, hG, hK, hE⟩ := hv
  have hx := B.exec
  have hb := B.bytes
  have hr := B.returns
  have hts := atoms_spec (ws := wsX2_readFact) B.pre
  have hown : s0.vm.findClass RX2 = some m0.cls := findClass_of_methodNamed B.named
  have hlocks := B.notSynchronized
  have S : kX p0 m0 c0 cX2_readFact 4 s0 _ wsX2_readFact RX2 D (tyL cI cZ cB cO cR cJ) Hb K := ⟨⟨hx, hb, hml, hown, hts⟩, hK, hE⟩
  have hL : gL Hb [] := gL.nil
  have hH := hG.2.2.2.2
  have hl := lv_entry ([.ref (ad 102), .ref (ad 101), .int now]) (n := 4) (Nat.le_of_ble_eq_true rfl)
  rw [lg_entry_eq]
  generalize (lg_sl ([.ref (ad 102), .ref (ad 101), .int now]) ++ List.replicate (4 - (lg_sl ([.ref (ad 102), .ref (ad 101), .int now])).length) Slot.unset).toArray = ls at hl ⊢
  have hl : lv_has ls 4 [(0, .ref (ad 102)), (1, .ref (ad 101)), (2, .int now)] := hl
  refine lv_aload_n hx hb dX2_readFact_0 rfl (lv_at hl 1 rfl) ?_
  refine k_ldcS (i := 12) (text := "at") S rfl dX2_readFact_1 ?_
  refine k_callV (n := 1) (As := [.ref (K.1 12)]) (rest := []) (st1 := .int (kIw 12 s r) :: []) (k := 101) (ci := 8) S hG hL (hlv.f (by decide) (by decide)) rfl rfl (c_X7_isWord s r hlv  12 (by decide) (hB)) gX2_readFact_X7_isWord rfl ⟨rfl, rfl⟩ (by decide +kernel) ⟨Nat.le_of_ble_eq_true rfl, Nat.le_of_ble_eq_true rfl⟩ rfl hl.1 rfl (Nat.le_of_ble_eq_true rfl) dX2_readFact_3 ⟨Nat.zero_le _, Nat.zero_le _⟩ (rfl) (fun H locs hG hL => ?_)
  refine lv_if_eq (tgt := 31) hx hb dX2_readFact_6 (by decide) (fun c6 => ?_) (fun c6 => ?_)
  ·
    refine lv_aload_n hx hb dX2_readFact_31 rfl (lv_at hl 1 rfl) ?_
    refine k_ldcS (i := 13) (text := "high") S rfl dX2_readFact_32 ?_
    refine k_callV (n := 1) (As := [.ref (K.1 13)]) (rest := []) (st1 := .int (kIw 13 s r) :: []) (k := 101) (ci := 8) S hG hL (hlv.f (by decide) (by decide)) rfl rfl (c_X7_isWord s r hlv  13 (by decide) (hB)) gX2_readFact_X7_isWord rfl ⟨rfl, rfl⟩ (by decide +kernel) ⟨Nat.le_of_ble_eq_true rfl, Nat.le_of_ble_eq_true rfl⟩ rfl hl.1 rfl (Nat.le_of_ble_eq_true rfl) dX2_readFact_34 ⟨Nat.zero_le _, Nat.zero_le _⟩ (rfl) (fun H locs hG hL => ?_)
    refine lv_if_eq (tgt := 61) hx hb dX2_readFact_37 (by decide) (fun c37 => ?_) (fun c37 => ?_)
    ·
      refine lv_aload_n hx hb dX2_readFact_61 rfl (lv_at hl 1 rfl) ?_
      refine k_ldcS (i := 14) (text := "since") S rfl dX2_readFact_62 ?_
      refine k_callV (n := 1) (As := [.ref (K.1 14)]) (rest := []) (st1 := .int (kIw 14 s r) :: []) (k := 101) (ci := 8) S hG hL (hlv.f (by decide) (by decide)) rfl rfl (c_X7_isWord s r hlv  14 (by decide) (hB)) gX2_readFact_X7_isWord rfl ⟨rfl, rfl⟩ (by decide +kernel) ⟨Nat.le_of_ble_eq_true rfl, Nat.le_of_ble_eq_true rfl⟩ rfl hl.1 rfl (Nat.le_of_ble_eq_true rfl) dX2_readFact_64 ⟨Nat.zero_le _, Nat.zero_le _⟩ (rfl) (fun H locs hG hL => ?_)
      refine lv_if_eq (tgt := 93) hx hb dX2_readFact_67 (by decide) (fun c67 => ?_) (fun c67 => ?_)
      ·
        refine lv_aload_n hx hb dX2_readFact_93 rfl (lv_at hl 1 rfl) ?_
        refine k_ldcS (i := 15) (text := "mark") S rfl dX2_readFact_94 ?_
        refine k_callV (n := 1) (As := [.ref (K.1 15)]) (rest := []) (st1 := .int (kIw 15 s r) :: []) (k := 101) (ci := 8) S hG hL (hlv.f (by decide) (by decide)) rfl rfl (c_X7_isWord s r hlv  15 (by decide) (hB)) gX2_readFact_X7_isWord rfl ⟨rfl, rfl⟩ (by decide +kernel) ⟨Nat.le_of_ble_eq_true rfl, Nat.le_of_ble_eq_true rfl⟩ rfl hl.1 rfl (Nat.le_of_ble_eq_true rfl) dX2_readFact_96 ⟨Nat.zero_le _, Nat.zero_le _⟩ (rfl) (fun H locs hG hL => ?_)
        refine lv_if_eq (tgt := 123) hx hb dX2_readFact_99 (by decide) (fun c99 => ?_) (fun c99 => ?_)
        ·
          refine lv_aload_n hx hb dX2_readFact_123 rfl (lv_at hl 1 rfl) ?_
          refine k_ldcS (i := 16) (text := "maybe") S rfl dX2_readFact_124 ?_
          refine k_callV (n := 1) (As := [.ref (K.1 16)]) (rest := []) (st1 := .int (kIw 16 s r) :: []) (k := 101) (ci := 8) S hG hL (hlv.f (by decide) (by decide)) rfl rfl (c_X7_isWord s r hlv  16 (by decide) (hB)) gX2_readFact_X7_isWord rfl ⟨rfl, rfl⟩ (by decide +kernel) ⟨Nat.le_of_ble_eq_true rfl, Nat.le_of_ble_eq_true rfl⟩ rfl hl.1 rfl (Nat.le_of_ble_eq_true rfl) dX2_readFact_126 ⟨Nat.zero_le _, Nat.zero_le _⟩ (rfl) (fun H locs hG hL => ?_)
          refine lv_if_eq (tgt := 143) hx hb dX2_readFact_129 (by decide) (fun c129 => ?_) (fun c129 => ?_)
          ·
            refine lv_iconst (v := 0) hx hb dX2_readFact_143 (by decide) ?_
            refine lv_istore_n (lv' := [(3, .int 0), (0, .ref (ad 102)), (1, .ref (ad 101)), (2, .int now)]) hx hb dX2_readFact_144 rfl hl (by decide) rfl (fun ls hl => ?_)
            refine lv_aload_n hx hb dX2_readFact_145 rfl (lv_at hl 1 rfl) ?_
            refine lv_aload_n hx hb dX2_readFact_146 rfl (lv_at hl 1 rfl) ?_
            refine k_gi (C := RX2) (T := TX2) (N := 6) (ci := 3) (v := s 109) S hG (fun w h => List.mem_cons_of_mem _ (List.mem_append_left _ (List.mem_append_right _ h))) 102 (hlv.f (by decide) (by decide)) rfl rfl 5 (by decide) rfl (hts (.fieldLink RX2 50 "SwarmLine$Facts" "maybe" "Z") (by decide +kernel)) rfl (rfl) dX2_readFact_147 ?_
            refine lv_if_ne (tgt := 157) hx hb dX2_readFact_150 (by decide) (fun c150 => ?_) (fun c150 => ?_)
            ·
              refine lv_iconst (v := 1) hx hb dX2_readFact_157 (by decide) ?_
              refine lv_goto (tgt := 162) hx hb dX2_readFact_158 (by decide) ?_
              refine k_pi (C := RX2) (T := TX2) (N := 6) (ci := 3) (ty := .boolean) S hG hL (fun w h => List.mem_cons_of_mem _ (List.mem_append_left _ (List.mem_append_right _ h))) tyX2 tyX2_ok nmX2 102 (hlv.f (by decide) (by decide)) rfl rfl 5 (by decide) rfl (hts (.fieldLink RX2 50 "SwarmLine$Facts" "maybe" "Z") (by decide +kernel)) rfl (by decide +kernel) (by decide) (by decide) (Nat.le_of_ble_eq_true rfl) (kw_102_maybe _) dX2_readFact_162 (fun H locs hG hL => ?_)
              refine lv_iload_n hx hb dX2_readFact_165 rfl (lv_at hl 0 rfl) ?_
              exact g_zret S.1 hr hlocks (by decide) hG hL (congrArg (fun z => some (Value.int z)) (by simp only [rdB, eq_true c6, eq_true c37, eq_true c67, eq_true c99, eq_true c129, eq_false c150, if_true, if_false])) (congr (congrArg (kJ ce0 ad K.2.2.1 cI cB cO cR) (by simp only [rdB, eq_true c6, eq_true c37, eq_true c67, eq_true c99, eq_true c129, eq_false c150, if_true, if_false])) (by rfl)) dX2_readFact_166
            ·
              refine lv_iload_n hx hb dX2_readFact_153 rfl (lv_at hl 0 rfl) ?_
              refine lv_if_eq (tgt := 161) hx hb dX2_readFact_154 (by decide) (fun _ => ?_) (fun c => absurd c (by decide))
              refine lv_iconst (v := 0) hx hb dX2_readFact_161 (by decide) ?_
              refine k_pi (C := RX2) (T := TX2) (N := 6) (ci := 3) (ty := .boolean) S hG hL (fun w h => List.mem_cons_of_mem _ (List.mem_append_left _ (List.mem_append_right _ h))) tyX2 tyX2_ok nmX2 102 (hlv.f (by decide) (by decide)) rfl rfl 5 (by decide) rfl (hts (.fieldLink RX2 50 "SwarmLine$Facts" "maybe" "Z") (by decide +kernel)) rfl (by decide +kernel) (by decide) (by decide) (Nat.le_of_ble_eq_true rfl) (kw_102_maybe _) dX2_readFact_162 (fun H locs hG hL => ?_)
              refine lv_iload_n hx hb dX2_readFact_165 rfl (lv_at hl 0 rfl) ?_
              exact g_zret S.1 hr hlocks (by decide) hG hL (congrArg (fun z => some (Value.int z)) (by simp only [rdB, eq_true c6, eq_true c37, eq_true c67, eq_true c99, eq_true c129, eq_true c150, if_true, if_false])) (congr (congrArg (kJ ce0 ad K.2.2.1 cI cB cO cR) (by simp only [rdB, eq_true c6, eq_true c37, eq_true c67, eq_true c99, eq_true c129, eq_true c150, if_true, if_false])) (by rfl)) dX2_readFact_166
          ·
            refine lv_aload_n hx hb dX2_readFact_132 rfl (lv_at hl 0 rfl) ?_
            refine k_gi (C := RX2) (T := TX2) (N := 6) (ci := 3) (v := s 109) S hG (fun w h => List.mem_cons_of_mem _ (List.mem_append_left _ (List.mem_append_right _ h))) 102 (hlv.f (by decide) (by decide)) rfl rfl 5 (by decide) rfl (hts (.fieldLink RX2 50 "SwarmLine$Facts" "maybe" "Z") (by decide +kernel)) rfl (rfl) dX2_readFact_133 ?_
            refine lv_if_ne (tgt := 143) hx hb dX2_readFact_136 (by decide) (fun c136 => ?_) (fun c136 => ?_)
            ·
              refine lv_iconst (v := 0) hx hb dX2_readFact_143 (by decide) ?_
              refine lv_istore_n (lv' := [(3, .int 0), (0, .ref (ad 102)), (1, .ref (ad 101)), (2, .int now)]) hx hb dX2_readFact_144 rfl hl (by decide) rfl (fun ls hl => ?_)
              refine lv_aload_n hx hb dX2_readFact_145 rfl (lv_at hl 1 rfl) ?_
              refine lv_aload_n hx hb dX2_readFact_146 rfl (lv_at hl 1 rfl) ?_
              refine k_gi (C := RX2) (T := TX2) (N := 6) (ci := 3) (v := s 109) S hG (fun w h => List.mem_cons_of_mem _ (List.mem_append_left _ (List.mem_append_right _ h))) 102 (hlv.f (by decide) (by decide)) rfl rfl 5 (by decide) rfl (hts (.fieldLink RX2 50 "SwarmLine$Facts" "maybe" "Z") (by decide +kernel)) rfl (rfl) dX2_readFact_147 ?_
              refine lv_if_ne (tgt := 157) hx hb dX2_readFact_150 (by decide) (fun c150 => ?_) (fun c150 => absurd c150 (c136))
              refine lv_iconst (v := 1) hx hb dX2_readFact_157 (by decide) ?_
              refine lv_goto (tgt := 162) hx hb dX2_readFact_158 (by decide) ?_
              refine k_pi (C := RX2) (T := TX2) (N := 6) (ci := 3) (ty := .boolean) S hG hL (fun w h => List.mem_cons_of_mem _ (List.mem_append_left _ (List.mem_append_right _ h))) tyX2 tyX2_ok nmX2 102 (hlv.f (by decide) (by decide)) rfl rfl 5 (by decide) rfl (hts (.fieldLink RX2 50 "SwarmLine$Facts" "maybe" "Z") (by decide +kernel)) rfl (by decide +kernel) (by decide) (by decide) (Nat.le_of_ble_eq_true rfl) (kw_102_maybe _) dX2_readFact_162 (fun H locs hG hL => ?_)
              refine lv_iload_n hx hb dX2_readFact_165 rfl (lv_at hl 0 rfl) ?_
              exact g_zret S.1 hr hlocks (by decide) hG hL (congrArg (fun z => some (Value.int z)) (by simp only [rdB, eq_true c6, eq_true c37, eq_true c67, eq_true c99, eq_false c129, eq_false c136, eq_false c150, if_true, if_false])) (congr (congrArg (kJ ce0 ad K.2.2.1 cI cB cO cR) (by simp only [rdB, eq_true c6, eq_true c37, eq_true c67, eq_true c99, eq_false c129, eq_false c136, eq_false c150, if_true, if_false])) (by rfl)) dX2_readFact_166
            ·
              refine lv_iconst (v := 1) hx hb dX2_readFact_139 (by decide) ?_
              refine lv_goto (tgt := 144) hx hb dX2_readFact_140 (by decide) ?_
              refine lv_istore_n (lv' := [(3, .int 1), (0, .ref (ad 102)), (1, .ref (ad 101)), (2, .int now)]) hx hb dX2_readFact_144 rfl hl (by decide) rfl (fun ls hl => ?_)
              refine lv_aload_n hx hb dX2_readFact_145 rfl (lv_at hl 1 rfl) ?_
              refine lv_aload_n hx hb dX2_readFact_146 rfl (lv_at hl 1 rfl) ?_
              refine k_gi (C := RX2) (T := TX2) (N := 6) (ci := 3) (v := s 109) S hG (fun w h => List.mem_cons_of_mem _ (List.mem_append_left _ (List.mem_append_right _ h))) 102 (hlv.f (by decide) (by decide)) rfl rfl 5 (by decide) rfl (hts (.fieldLink RX2 50 "SwarmLine$Facts" "maybe" "Z") (by decide +kernel)) rfl (rfl) dX2_readFact_147 ?_
              refine lv_if_ne (tgt := 157) hx hb dX2_readFact_150 (by decide) (fun c150 => absurd c150 (fun z => z c136)) (fun c150 => ?_)
              refine lv_iload_n hx hb dX2_readFact_153 rfl (lv_at hl 0 rfl) ?_
              refine lv_if_eq (tgt := 161) hx hb dX2_readFact_154 (by decide) (fun c => absurd c (by decide)) (fun _ => ?_)
              refine lv_iconst (v := 1) hx hb dX2_readFact_157 (by decide) ?_
              refine lv_goto (tgt := 162) hx hb dX2_readFact_158 (by decide) ?_
              refine k_pi (C := RX2) (T := TX2) (N := 6) (ci := 3) (ty := .boolean) S hG hL (fun w h => List.mem_cons_of_mem _ (List.mem_append_left _ (List.mem_append_right _ h))) tyX2 tyX2_ok nmX2 102 (hlv.f (by decide) (by decide)) rfl rfl 5 (by decide) rfl (hts (.fieldLink RX2 50 "SwarmLine$Facts" "maybe" "Z") (by decide +kernel)) rfl (by decide +kernel) (by decide) (by decide) (Nat.le_of_ble_eq_true rfl) (kw_102_maybe _) dX2_readFact_162 (fun H locs hG hL => ?_)
              refine lv_iload_n hx hb dX2_readFact_165 rfl (lv_at hl 0 rfl) ?_
              exact g_zret S.1 hr hlocks (by decide) hG hL (congrArg (fun z => some (Value.int z)) (by simp only [rdB, eq_true c6, eq_true c37, eq_true c67, eq_true c99, eq_false c129, eq_true c136, eq_true c150, if_true, if_false])) (congr (congrArg (kJ ce0 ad K.2.2.1 cI cB cO cR) (by simp only [rdB, eq_true c6, eq_true c37, eq_true c67, eq_true c99, eq_false c129, eq_true c136, eq_true c150, if_true, if_false])) (by rfl)) dX2_readFact_166
        ·
          refine lv_aload_n hx hb dX2_readFact_102 rfl (lv_at hl 0 rfl) ?_
          refine k_gi (C := RX2) (T := TX2) (N := 6) (ci := 3) (v := s 108) S hG (fun w h => List.mem_cons_of_mem _ (List.mem_append_left _ (List.mem_append_right _ h))) 102 (hlv.f (by decide) (by decide)) rfl rfl 4 (by decide) rfl (hts (.fieldLink RX2 47 "SwarmLine$Facts" "mark" "I") (by decide +kernel)) rfl (rfl) dX2_readFact_103 ?_
          refine lv_if_ne (tgt := 121) hx hb dX2_readFact_106 (by decide) (fun c106 => ?_) (fun c106 => ?_)
          ·
            refine lv_iconst (v := 0) hx hb dX2_readFact_121 (by decide) ?_
            exact g_zret S.1 hr hlocks (by decide) hG hL (congrArg (fun z => some (Value.int z)) (by simp only [rdB, eq_true c6, eq_true c37, eq_true c67, eq_false c99, eq_false c106, if_true, if_false])) (congr (congrArg (kJ ce0 ad K.2.2.1 cI cB cO cR) (by simp only [rdB, eq_true c6, eq_true c37, eq_true c67, eq_false c99, eq_false c106, if_true, if_false])) (by rfl)) dX2_readFact_122
          ·
            refine lv_aload_n hx hb dX2_readFact_109 rfl (lv_at hl 0 rfl) ?_
            refine lv_aload_n hx hb dX2_readFact_110 rfl (lv_at hl 1 rfl) ?_
            refine k_callV (n := 1) (As := [.ref (ad 101)]) (rest := []) (st1 := .int ((rfX 108 1 7 s r).1) :: []) (k := 102) (ci := 3) S hG hL (hlv.f (by decide) (by decide)) rfl rfl (c_X2_readMark s r hlv   (hB.1) (hT)) gX2_readFact_X2_readMark rfl ⟨rfl, rfl⟩ (by decide +kernel) ⟨Nat.le_of_ble_eq_true rfl, Nat.le_of_ble_eq_true rfl⟩ rfl hl.1 rfl (Nat.le_of_ble_eq_true rfl) dX2_readFact_111 ⟨Nat.zero_le _, Nat.zero_le _⟩ (rfl) (fun H locs hG hL => ?_)
            refine lv_if_eq (tgt := 121) hx hb dX2_readFact_114 (by decide) (fun c114 => ?_) (fun c114 => ?_)
            ·
              refine lv_iconst (v := 0) hx hb dX2_readFact_121 (by decide) ?_
              exact g_zret S.1 hr hlocks (by decide) hG hL (congrArg (fun z => some (Value.int z)) (by simp only [rdB, eq_true c6, eq_true c37, eq_true c67, eq_false c99, eq_true c106, eq_true c114, if_true, if_false])) (congr (congrArg (kJ ce0 ad K.2.2.1 cI cB cO cR) (by simp only [rdB, eq_true c6, eq_true c37, eq_true c67, eq_false c99, eq_true c106, eq_true c114, if_true, if_false])) (by rfl)) dX2_readFact_122
            ·
              refine lv_iconst (v := 1) hx hb dX2_readFact_117 (by decide) ?_
              refine lv_goto (tgt := 122) hx hb dX2_readFact_118 (by decide) ?_
              exact g_zret S.1 hr hlocks (by decide) hG hL (congrArg (fun z => some (Value.int z)) (by simp only [rdB, eq_true c6, eq_true c37, eq_true c67, eq_false c99, eq_true c106, eq_false c114, if_true, if_false])) (congr (congrArg (kJ ce0 ad K.2.2.1 cI cB cO cR) (by simp only [rdB, eq_true c6, eq_true c37, eq_true c67, eq_false c99, eq_true c106, eq_false c114, if_true, if_false])) (by rfl)) dX2_readFact_122
      ·
        refine lv_aload_n hx hb dX2_readFact_70 rfl (lv_at hl 0 rfl) ?_
        refine k_gi (C := RX2) (T := TX2) (N := 6) (ci := 3) (v := s 107) S hG (fun w h => List.mem_cons_of_mem _ (List.mem_append_left _ (List.mem_append_right _ h))) 102 (hlv.f (by decide) (by decide)) rfl rfl 3 (by decide) rfl (hts (.fieldLink RX2 44 "SwarmLine$Facts" "since" "I") (by decide +kernel)) rfl (rfl) dX2_readFact_71 ?_
        refine lv_iconst (v := (-1)) hx hb dX2_readFact_74 (by decide) ?_
        refine lv_icmp_ne (tgt := 91) hx hb dX2_readFact_75 (by decide) (fun c75 => ?_) (fun c75 => ?_)
        ·
          refine lv_iconst (v := 0) hx hb dX2_readFact_91 (by decide) ?_
          exact g_zret S.1 hr hlocks (by decide) hG hL (congrArg (fun z => some (Value.int z)) (by simp only [rdB, eq_true c6, eq_true c37, eq_false c67, eq_false c75, if_true, if_false])) (congr (congrArg (kJ ce0 ad K.2.2.1 cI cB cO cR) (by simp only [rdB, eq_true c6, eq_true c37, eq_false c67, eq_false c75, if_true, if_false])) (by rfl)) dX2_readFact_92
        ·
          refine lv_aload_n hx hb dX2_readFact_78 rfl (lv_at hl 0 rfl) ?_
          refine lv_aload_n hx hb dX2_readFact_79 rfl (lv_at hl 1 rfl) ?_
          refine lv_iload_n hx hb dX2_readFact_80 rfl (lv_at hl 2 rfl) ?_
          refine k_callV (n := 2) (As := [.ref (ad 101), .int now]) (rest := []) (st1 := .int ((rfX 107 0 now s r).1) :: []) (k := 102) (ci := 3) S hG hL (hlv.f (by decide) (by decide)) rfl rfl (c_X2_readSince s r hlv   now (hB.1) (hT)) gX2_readFact_X2_readSince rfl ⟨rfl, rfl⟩ (by decide +kernel) ⟨Nat.le_of_ble_eq_true rfl, Nat.le_of_ble_eq_true rfl⟩ rfl hl.1 rfl (Nat.le_of_ble_eq_true rfl) dX2_readFact_81 ⟨Nat.zero_le _, Nat.zero_le _⟩ (rfl) (fun H locs hG hL => ?_)
          refine lv_if_eq (tgt := 91) hx hb dX2_readFact_84 (by decide) (fun c84 => ?_) (fun c84 => ?_)
          ·
            refine lv_iconst (v := 0) hx hb dX2_readFact_91 (by decide) ?_
            exact g_zret S.1 hr hlocks (by decide) hG hL (congrArg (fun z => some (Value.int z)) (by simp only [rdB, eq_true c6, eq_true c37, eq_false c67, eq_true c75, eq_true c84, if_true, if_false])) (congr (congrArg (kJ ce0 ad K.2.2.1 cI cB cO cR) (by simp only [rdB, eq_true c6, eq_true c37, eq_false c67, eq_true c75, eq_true c84, if_true, if_false])) (by rfl)) dX2_readFact_92
          ·
            refine lv_iconst (v := 1) hx hb dX2_readFact_87 (by decide) ?_
            refine lv_goto (tgt := 92) hx hb dX2_readFact_88 (by decide) ?_
            exact g_zret S.1 hr hlocks (by decide) hG hL (congrArg (fun z => some (Value.int z)) (by simp only [rdB, eq_true c6, eq_true c37, eq_false c67, eq_true c75, eq_false c84, if_true, if_false])) (congr (congrArg (kJ ce0 ad K.2.2.1 cI cB cO cR) (by simp only [rdB, eq_true c6, eq_true c37, eq_false c67, eq_true c75, eq_false c84, if_true, if_false])) (by rfl)) dX2_readFact_92
    ·
      refine lv_aload_n hx hb dX2_readFact_40 rfl (lv_at hl 0 rfl) ?_
      refine k_gi (C := RX2) (T := TX2) (N := 6) (ci := 3) (v := s 106) S hG (fun w h => List.mem_cons_of_mem _ (List.mem_append_left _ (List.mem_append_right _ h))) 102 (hlv.f (by decide) (by decide)) rfl rfl 2 (by decide) rfl (hts (.fieldLink RX2 41 "SwarmLine$Facts" "high" "I") (by decide +kernel)) rfl (rfl) dX2_readFact_41 ?_
      refine lv_if_ne (tgt := 59) hx hb dX2_readFact_44 (by decide) (fun c44 => ?_) (fun c44 => ?_)
      ·
        refine lv_iconst (v := 0) hx hb dX2_readFact_59 (by decide) ?_
        exact g_zret S.1 hr hlocks (by decide) hG hL (congrArg (fun z => some (Value.int z)) (by simp only [rdB, eq_true c6, eq_false c37, eq_false c44, if_true, if_false])) (congr (congrArg (kJ ce0 ad K.2.2.1 cI cB cO cR) (by simp only [rdB, eq_true c6, eq_false c37, eq_false c44, if_true, if_false])) (by rfl)) dX2_readFact_60
      ·
        refine lv_aload_n hx hb dX2_readFact_47 rfl (lv_at hl 0 rfl) ?_
        refine lv_aload_n hx hb dX2_readFact_48 rfl (lv_at hl 1 rfl) ?_
        refine k_callV (n := 1) (As := [.ref (ad 101)]) (rest := []) (st1 := .int ((rfX 106 1 9 s r).1) :: []) (k := 102) (ci := 3) S hG hL (hlv.f (by decide) (by decide)) rfl rfl (c_X2_readHigh s r hlv   (hB.1) (hT)) gX2_readFact_X2_readHigh rfl ⟨rfl, rfl⟩ (by decide +kernel) ⟨Nat.le_of_ble_eq_true rfl, Nat.le_of_ble_eq_true rfl⟩ rfl hl.1 rfl (Nat.le_of_ble_eq_true rfl) dX2_readFact_49 ⟨Nat.zero_le _, Nat.zero_le _⟩ (rfl) (fun H locs hG hL => ?_)
        refine lv_if_eq (tgt := 59) hx hb dX2_readFact_52 (by decide) (fun c52 => ?_) (fun c52 => ?_)
        ·
          refine lv_iconst (v := 0) hx hb dX2_readFact_59 (by decide) ?_
          exact g_zret S.1 hr hlocks (by decide) hG hL (congrArg (fun z => some (Value.int z)) (by simp only [rdB, eq_true c6, eq_false c37, eq_true c44, eq_true c52, if_true, if_false])) (congr (congrArg (kJ ce0 ad K.2.2.1 cI cB cO cR) (by simp only [rdB, eq_true c6, eq_false c37, eq_true c44, eq_true c52, if_true, if_false])) (by rfl)) dX2_readFact_60
        ·
          refine lv_iconst (v := 1) hx hb dX2_readFact_55 (by decide) ?_
          refine lv_goto (tgt := 60) hx hb dX2_readFact_56 (by decide) ?_
          exact g_zret S.1 hr hlocks (by decide) hG hL (congrArg (fun z => some (Value.int z)) (by simp only [rdB, eq_true c6, eq_false c37, eq_true c44, eq_false c52, if_true, if_false])) (congr (congrArg (kJ ce0 ad K.2.2.1 cI cB cO cR) (by simp only [rdB, eq_true c6, eq_false c37, eq_true c44, eq_false c52, if_true, if_false])) (by rfl)) dX2_readFact_60
  ·
    refine lv_aload_n hx hb dX2_readFact_9 rfl (lv_at hl 0 rfl) ?_
    refine k_gi (C := RX2) (T := TX2) (N := 6) (ci := 3) (v := s 104) S hG (fun w h => List.mem_cons_of_mem _ (List.mem_append_left _ (List.mem_append_right _ h))) 102 (hlv.f (by decide) (by decide)) rfl rfl 0 (by decide) rfl (hts (.fieldLink RX2 34 "SwarmLine$Facts" "x" "I") (by decide +kernel)) rfl (rfl) dX2_readFact_10 ?_
    refine lv_iconst (v := (-1)) hx hb dX2_readFact_13 (by decide) ?_
    refine lv_icmp_ne (tgt := 29) hx hb dX2_readFact_14 (by decide) (fun c14 => ?_) (fun c14 => ?_)
    ·
      refine lv_iconst (v := 0) hx hb dX2_readFact_29 (by decide) ?_
      exact g_zret S.1 hr hlocks (by decide) hG hL (congrArg (fun z => some (Value.int z)) (by simp only [rdB, eq_false c6, eq_false c14, if_true, if_false])) (congr (congrArg (kJ ce0 ad K.2.2.1 cI cB cO cR) (by simp only [rdB, eq_false c6, eq_false c14, if_true, if_false])) (by rfl)) dX2_readFact_30
    ·
      refine lv_aload_n hx hb dX2_readFact_17 rfl (lv_at hl 0 rfl) ?_
      refine lv_aload_n hx hb dX2_readFact_18 rfl (lv_at hl 1 rfl) ?_
      refine k_callV (n := 1) (As := [.ref (ad 101)]) (rest := []) (st1 := .int ((rpX s r).1) :: []) (k := 102) (ci := 3) S hG hL (hlv.f (by decide) (by decide)) rfl rfl (c_X2_readPlace s r hlv   (hB.1) (hT)) gX2_readFact_X2_readPlace rfl ⟨rfl, rfl⟩ (by decide +kernel) ⟨Nat.le_of_ble_eq_true rfl, Nat.le_of_ble_eq_true rfl⟩ rfl hl.1 rfl (Nat.le_of_ble_eq_true rfl) dX2_readFact_19 ⟨Nat.zero_le _, Nat.zero_le _⟩ (rfl) (fun H locs hG hL => ?_)
      refine lv_if_eq (tgt := 29) hx hb dX2_readFact_22 (by decide) (fun c22 => ?_) (fun c22 => ?_)
      ·
        refine lv_iconst (v := 0) hx hb dX2_readFact_29 (by decide) ?_
        exact g_zret S.1 hr hlocks (by decide) hG hL (congrArg (fun z => some (Value.int z)) (by simp only [rdB, eq_false c6, eq_true c14, eq_true c22, if_true, if_false])) (congr (congrArg (kJ ce0 ad K.2.2.1 cI cB cO cR) (by simp only [rdB, eq_false c6, eq_true c14, eq_true c22, if_true, if_false])) (by rfl)) dX2_readFact_30
      ·
        refine lv_iconst (v := 1) hx hb dX2_readFact_25 (by decide) ?_
        refine lv_goto (tgt := 30) hx hb dX2_readFact_26 (by decide) ?_
        exact g_zret S.1 hr hlocks (by decide) hG hL (congrArg (fun z => some (Value.int z)) (by simp only [rdB, eq_false c6, eq_true c14, eq_false c22, if_true, if_false])) (congr (congrArg (kJ ce0 ad K.2.2.1 cI cB cO cR) (by simp only [rdB, eq_false c6, eq_true c14, eq_false c22, if_true, if_false])) (by rfl)) dX2_readFact_30

set_option maxHeartbeats 800000 in
set_option maxRecDepth 100000 in
theorem c_X9_origin {l : Launch} {D : va_G} {cI cZ cB cO cR cJ : ClassId} {Hb : Heap} {K : kTx} {lv : Nat → Prop} {ad : Nat → Nat} {ce0 : Nat → va_E} (hst : l.stackTraces = false) (s : Nat → Int32) (r : Nat → Nat → Int32) (hlv : kL lv s) (k : Int32) (hbs : (s 14).toInt ≤ 60) (h0 : 0 ≤ (s 6).toInt) (h1 : (s 6).toInt ≤ 60) (hb3 : (s 39).toInt ≤ 60) (hsw : ∀ j, j < (s 14).toNatClampNeg → r 15 j = 1 → 0 ≤ (r 25 j).toInt ∧ (r 25 j).toInt < (s 39).toInt) : xMet l D cI cZ cB cO cR cJ Hb K lv ad ce0 yX9_origin wsX9_origin 7 113 2 [.ref (ad 100), .int k] s r (xOg k s r) (some (.int (koV k s r))) s r s r := by
  refine vx_ofW (cc := cX9_origin) (maxL := 6) (ret := (some .int)) (by decide) rfl ?_
  intro p0 e0 s0 m0 args below meth c0 s₁ B hml hout hv
  obtain ⟨rfl, hG, hK, hE⟩ := hv
  have hx := B.exec
  have hb := B.bytes
  have hr := B.returns
  have hts := atoms_spec (ws := wsX9_origin) B.pre
  have hown : s0.vm.findClass RX9 = some m0.cls := findClass_of_methodNamed B.named
  have hlocks := B.notSynchronized
  have S : kX p0 m0 c0 cX9_origin 6 s0 _ wsX9_origin RX9 D (tyL cI cZ cB cO cR cJ) Hb K := ⟨⟨hx, hb, hml, hown, hts⟩, hK, hE⟩
  have hL : gL Hb [] := gL.nil
  have hH := hG.2.2.2.2
  have hl := lv_entry ([.ref (ad 100), .int k]) (n := 6) (Nat.le_of_ble_eq_true rfl)
  rw [lg_entry_eq]
  generalize (lg_sl ([.ref (ad 100), .int k]) ++ List.replicate (6 - (lg_sl ([.ref (ad 100), .int k])).length) Slot.unset).toArray = ls at hl ⊢
  have hl : lv_has ls 6 [(0, .ref (ad 100)), (1, .int k)] := hl
  refine lv_aload_n hx hb dX9_origin_0 rfl (lv_at hl 0 rfl) ?_
  refine lv_iload_n hx hb dX9_origin_1 rfl (lv_at hl 1 rfl) ?_
  refine x_callV (n := 1) (As := [.int k]) (rest := []) (st1 := .ref (ad (2000 + Int32.toNatClampNeg k)) :: []) (k := 100) (ci := 10) S hG hL (hlv.f (by decide) (by decide)) rfl rfl (c_X9_swarmNumbered hst s r hlv  k (hbs)) gX9_origin_X9_swarmNumbered rfl ⟨rfl, rfl⟩ (by decide +kernel) ⟨Nat.le_of_ble_eq_true rfl, Nat.le_of_ble_eq_true rfl⟩ rfl hl.1 rfl (Nat.le_of_ble_eq_true rfl) dX9_origin_2 ⟨Nat.le_of_ble_eq_true rfl, Nat.le_of_ble_eq_true rfl⟩ hout hlocks (fun E9 h9 => ⟨by simp only [xNm, xOg] at h9 ⊢; split at h9 <;> simp_all, rfl⟩) ⟨Nat.le_of_ble_eq_true rfl, Nat.le_of_ble_eq_true rfl⟩ (rfl) (fun ht2 H locs hG hL => ?_)
  refine lv_astore_n (lv' := [(2, .ref (ad (2000 + Int32.toNatClampNeg k))), (0, .ref (ad 100)), (1, .int k)]) hx hb dX9_origin_5 rfl hl (by decide) rfl (fun ls hl => ?_)
  refine lv_aload_n hx hb dX9_origin_6 rfl (lv_at hl 0 rfl) ?_
  refine k_giN (C := RX6) (T := TX6) (N := 11) (ci := 7) (v := r 15 (Int32.toNatClampNeg k)) S hG (fun w h => List.mem_cons_of_mem _ (List.mem_append_left _ (List.mem_append_left _ (List.mem_append_left _ (List.mem_append_left _ (List.mem_append_left _ (List.mem_append_left _ (List.mem_append_right _ h)))))))) (2000 + Int32.toNatClampNeg k) (hlv.sw (xNm_lt ht2)) (kJ_sw (xNm_9 ht2 hbs)) rfl 7 (by decide) rfl (by decide +kernel) rfl (rfl) dX9_origin_7 ?_
  refine lv_iconst (v := 1) hx hb dX9_origin_10 (by decide) ?_
  refine lv_icmp_eq (tgt := 25) hx hb dX9_origin_11 (by decide) (fun c11 => ?_) (fun c11 => ?_)
  ·
    refine lv_aload_n hx hb dX9_origin_25 rfl (lv_at hl 1 rfl) ?_
    refine lv_aload_n hx hb dX9_origin_26 rfl (lv_at hl 0 rfl) ?_
    refine k_giN (C := RX6) (T := TX6) (N := 11) (ci := 7) (v := r 25 (Int32.toNatClampNeg k)) S hG (fun w h => List.mem_cons_of_mem _ (List.mem_append_left _ (List.mem_append_left _ (List.mem_append_left _ (List.mem_append_left _ (List.mem_append_left _ (List.mem_append_left _ (List.mem_append_right _ h)))))))) (2000 + Int32.toNatClampNeg k) (hlv.sw (xNm_lt ht2)) (kJ_sw (xNm_9 ht2 hbs)) rfl 9 (by decide) rfl (by decide +kernel) rfl (rfl) dX9_origin_27 ?_
    refine k_callV (n := 1) (As := [.int (r 25 (Int32.toNatClampNeg k))]) (rest := []) (st1 := .ref (ad (4000 + Int32.toNatClampNeg (r 25 (Int32.toNatClampNeg k)))) :: []) (k := 100) (ci := 10) S hG hL (hlv.f (by decide) (by decide)) rfl rfl (c_X9_caseNumbered_ok s r hlv  (r 25 (Int32.toNatClampNeg k)) ((hsw _ (xNm_lt ht2) c11).1) ((hsw _ (xNm_lt ht2) c11).2) (hb3)) gX9_origin_X9_caseNumbered rfl ⟨rfl, rfl⟩ (by decide +kernel) ⟨Nat.le_of_ble_eq_true rfl, Nat.le_of_ble_eq_true rfl⟩ rfl hl.1 rfl (Nat.le_of_ble_eq_true rfl) dX9_origin_30 ⟨Nat.le_of_ble_eq_true rfl, Nat.le_of_ble_eq_true rfl⟩ (rfl) (fun H locs hG hL => ?_)
    refine k_giN (C := RX1) (T := TX1) (N := 11) (ci := 2) (v := r 47 (Int32.toNatClampNeg (r 25 (Int32.toNatClampNeg k)))) S hG (fun w h => List.mem_cons_of_mem _ (List.mem_append_left _ (List.mem_append_left _ (List.mem_append_left _ (List.mem_append_left _ (List.mem_append_left _ (List.mem_append_right _ h))))))) (4000 + Int32.toNatClampNeg (r 25 (Int32.toNatClampNeg k))) (hlv.ca (ix_lt (hsw _ (xNm_lt ht2) c11).1 (hsw _ (xNm_lt ht2) c11).2)) (kJ_ca (ix_le (hsw _ (xNm_lt ht2) c11).1 (by have q := (hsw _ (xNm_lt ht2) c11).2; omega))) rfl 6 (by decide) rfl (by decide +kernel) rfl (rfl) dX9_origin_33 ?_
    refine lv_istore_n (lv' := [(3, .int (r 47 (Int32.toNatClampNeg (r 25 (Int32.toNatClampNeg k))))), (2, .ref (ad (2000 + Int32.toNatClampNeg k))), (0, .ref (ad 100)), (1, .int k)]) hx hb dX9_origin_36 rfl hl (by decide) rfl (fun ls hl => ?_)
    refine lv_iconst (v := (-1)) hx hb dX9_origin_37 (by decide) ?_
    refine lv_istore (lv' := [(4, .int (-1)), (3, .int (r 47 (Int32.toNatClampNeg (r 25 (Int32.toNatClampNeg k))))), (2, .ref (ad (2000 + Int32.toNatClampNeg k))), (0, .ref (ad 100)), (1, .int k)]) hx hb dX9_origin_38 hl (by decide) rfl (fun ls hl => ?_)
    refine lv_iconst (v := 0) hx hb dX9_origin_40 (by decide) ?_
    refine lv_istore (lv' := [(5, .int 0), (4, .int (-1)), (3, .int (r 47 (Int32.toNatClampNeg (r 25 (Int32.toNatClampNeg k))))), (2, .ref (ad (2000 + Int32.toNatClampNeg k))), (0, .ref (ad 100)), (1, .int k)]) hx hb dX9_origin_41 hl (by decide) rfl (fun ls hl => ?_)
    have LP : ∀ (n : Nat) (i : Nat) (x : Int32) (f : Int32) (ex : x = nI i) (hi : i ≤ (s 6).toNatClampNeg) (hn : (s 6).toNatClampNeg + 1 ≤ i + n) (hF : koF (Int32.toNatClampNeg k) (r 47 (Int32.toNatClampNeg (r 25 (Int32.toNatClampNeg k)))) r ((s 6).toNatClampNeg - i) i f = koV k s r), ∀ (H : Heap) (locs : List Loc), gW D Hb lv ad (kJ ce0 ad K.2.2.1 cI cB cO cR s r) H → gL Hb locs → ∀ (ls : Array Slot), lv_has ls 6 [(0, .ref (ad 100)), (2, .ref (ad (2000 + Int32.toNatClampNeg k))), (3, .int (r 47 (Int32.toNatClampNeg (r 25 (Int32.toNatClampNeg k))))), (4, .int f), (5, .int x)] → W p0 l e0 (headSpec wsX9_origin { frames := 7, cells := 2, slots := 12, locals := 113 }).room s0 m0 ([.ref (ad 100), .int k] : List Value).toArray below meth c0 H locs (0 + 1) (0 + 6 * 1) (vx_MQ below (xQ D Hb lv ad (xOg k s r) (some (.int (koV k s r))) (kJ ce0 ad K.2.2.1 cI cB cO cR s r)) (xX D Hb lv ad (xOg k s r) (kJ ce0 ad K.2.2.1 cI cB cO cR s r)) ([.ref (ad 100), .int k] : List Value).toArray s0 2 12 (gA Hb)) (F0 m0 43 ls []) := by
      intro n
      induction n with
      | zero => intro i x f ex hi hn hF; exact absurd hn (by omega)
      | succ n ih =>
        intro i x f ex hi hn hF H locs hG hL ls hl
        have hbd : (s 6).toNatClampNeg ≤ 60 := t_ixl h0 h1; have hii : Int32.toNatClampNeg x = i := by { rw [ex]; exact ix_nI (by omega) }
        refine lv_iload hx hb dX9_origin_43 (lv_at hl 4 rfl) ?_
        refine lv_aload_n hx hb dX9_origin_45 rfl (lv_at hl 0 rfl) ?_
        refine k_ga (C := RX9) (T := TX9) (N := 14) (ci := 10) (v := .ref (ad 105)) S hG (fun w h => List.mem_cons_of_mem _ (List.mem_append_left _ (List.mem_append_left _ (List.mem_append_left _ (List.mem_append_left _ (List.mem_append_right _ h)))))) 100 (hlv.f (by decide) (by decide)) rfl rfl 4 (by decide) rfl (hts (.fieldLink RX9 40 "SwarmLine" "hives" "Ljava/util/ArrayList;") (by decide +kernel)) rfl dX9_origin_46 ?_
        refine k_callV (n := 0) (As := []) (rest := [.int x]) (st1 := .int (s 6) :: [.int x]) (k := 105) (ci := 0) S hG hL (hlv.f (by decide) (by decide)) rfl rfl (c_size0 s r hlv   ) gX9_origin_Jx4a65c_size_8abf5 rfl ⟨rfl, rfl⟩ (by decide +kernel) ⟨Nat.le_of_ble_eq_true rfl, Nat.le_of_ble_eq_true rfl⟩ rfl hl.1 rfl (Nat.le_of_ble_eq_true rfl) dX9_origin_49 ⟨Nat.le_of_ble_eq_true rfl, Nat.le_of_ble_eq_true rfl⟩ (rfl) (fun H locs hG hL => ?_)
        refine lv_icmp_ge (tgt := 93) hx hb dX9_origin_52 (by decide) (fun c52 => ?_) (fun c52 => ?_)
        ·
          have hEq := cl_ge h0 hi (ex ▸ c52)
          refine lv_iload hx hb dX9_origin_93 (lv_at hl 3 rfl) ?_
          exact x_iret S.1 hr hlocks hG hL (by simp only [xOg, eq_false (xNm_n ht2), eq_true c11, eq_true c52, if_true, if_false]) (congrArg (fun z => some (Value.int z)) (by rw [← hF, hEq, Nat.sub_self]; rfl)) (congr (congrArg (kJ ce0 ad K.2.2.1 cI cB cO cR) (by rfl)) (by rfl)) dX9_origin_95 (Nat.le_of_ble_eq_true rfl) (Nat.le_of_ble_eq_true rfl)
        ·
          have hlt := cl_lt h0 hi (ex ▸ c52)
          refine lv_aload_n hx hb dX9_origin_55 rfl (lv_at hl 0 rfl) ?_
          refine k_ga (C := RX9) (T := TX9) (N := 14) (ci := 10) (v := .ref (ad 105)) S hG (fun w h => List.mem_cons_of_mem _ (List.mem_append_left _ (List.mem_append_left _ (List.mem_append_left _ (List.mem_append_left _ (List.mem_append_right _ h)))))) 100 (hlv.f (by decide) (by decide)) rfl rfl 4 (by decide) rfl (hts (.fieldLink RX9 40 "SwarmLine" "hives" "Ljava/util/ArrayList;") (by decide +kernel)) rfl dX9_origin_56 ?_
          refine lv_iload hx hb dX9_origin_59 (lv_at hl 4 rfl) ?_
          refine k_callV (n := 1) (As := [.int x]) (rest := []) (st1 := .ref (ad (1000 + i)) :: []) (k := 105) (ci := 0) S hG hL (hlv.f (by decide) (by decide)) rfl rfl (c_get0 s r hlv  x (g_x0 ex (by omega)) (g_x1 ex hlt (by omega) h0) (h1)) gX9_origin_Jx4a65c_get_915e3 rfl ⟨rfl, rfl⟩ (by decide +kernel) ⟨Nat.le_of_ble_eq_true rfl, Nat.le_of_ble_eq_true rfl⟩ rfl hl.1 rfl (Nat.le_of_ble_eq_true rfl) dX9_origin_61 ⟨Nat.le_of_ble_eq_true rfl, Nat.le_of_ble_eq_true rfl⟩ (by rw [hii]; rfl) (fun H locs hG hL => ?_)
          refine k_cast (C := RX3) (T := TX3) (N := 7) (ci := 4) S hG (1000 + i) (hlv.hv hlt) (kJ_hv (by omega)) rfl (hts (.classLink RX9 151 "SwarmLine$Hive") (by decide +kernel)) dX9_origin_64 ?_
          refine lv_aload_n hx hb dX9_origin_67 rfl (lv_at hl 1 rfl) ?_
          refine lv_iload_n hx hb dX9_origin_68 rfl (lv_at hl 2 rfl) ?_
          refine k_callV (n := 2) (As := [.ref (ad (2000 + Int32.toNatClampNeg k)), .int (r 47 (Int32.toNatClampNeg (r 25 (Int32.toNatClampNeg k))))]) (rest := []) (st1 := .int (kAw i (Int32.toNatClampNeg k) (r 47 (Int32.toNatClampNeg (r 25 (Int32.toNatClampNeg k)))) r) :: []) (k := 1000 + i) (ci := 4) S hG hL (hlv.hv hlt) (kJ_hv (by omega)) rfl (c_X3_agreesWith s r hlv i hlt (by omega) (Int32.toNatClampNeg k) (xNm_lt ht2) (xNm_9 ht2 hbs) (r 47 (Int32.toNatClampNeg (r 25 (Int32.toNatClampNeg k)))) ) gX9_origin_X3_agreesWith rfl ⟨rfl, rfl⟩ (by decide +kernel) ⟨Nat.le_of_ble_eq_true rfl, Nat.le_of_ble_eq_true rfl⟩ rfl hl.1 rfl (Nat.le_of_ble_eq_true rfl) dX9_origin_69 ⟨Nat.le_of_ble_eq_true rfl, Nat.le_of_ble_eq_true rfl⟩ (rfl) (fun H locs hG hL => ?_)
          refine lv_if_eq (tgt := 87) hx hb dX9_origin_72 (by decide) (fun c72 => ?_) (fun c72 => ?_)
          ·
            refine lv_iinc (v := x + 1) (lv' := [(5, .int (x + 1)), (0, .ref (ad 100)), (2, .ref (ad (2000 + Int32.toNatClampNeg k))), (3, .int (r 47 (Int32.toNatClampNeg (r 25 (Int32.toNatClampNeg k))))), (4, .int f)]) hx hb dX9_origin_87 hl (k := 4) rfl (by rfl) (by decide) rfl (fun ls hl => ?_)
            refine lv_goto (tgt := 43) hx hb dX9_origin_90 (by decide) ?_
            exact ih  (i + 1) (x + 1) f (by rw [ex]; exact nI_1 i) (hlt) (by omega) (by rw [← hF, show (s 6).toNatClampNeg - i = ((s 6).toNatClampNeg - (i + 1)) + 1 by omega]; simp only [koF, ← ex, eq_true c11, eq_false c52, eq_true c72, ↓reduceIte]) _ _ hG hL _ (lv_sub hl [1, 2, 3, 4, 0] rfl)
          ·
            refine lv_iload hx hb dX9_origin_75 (lv_at hl 3 rfl) ?_
            refine lv_iconst (v := (-1)) hx hb dX9_origin_77 (by decide) ?_
            refine lv_icmp_eq (tgt := 83) hx hb dX9_origin_78 (by decide) (fun c78 => ?_) (fun c78 => ?_)
            ·
              refine lv_iload hx hb dX9_origin_83 (lv_at hl 4 rfl) ?_
              refine lv_istore (lv' := [(4, .int x), (0, .ref (ad 100)), (2, .ref (ad (2000 + Int32.toNatClampNeg k))), (3, .int (r 47 (Int32.toNatClampNeg (r 25 (Int32.toNatClampNeg k))))), (5, .int x)]) hx hb dX9_origin_85 hl (by decide) rfl (fun ls hl => ?_)
              refine lv_iinc (v := x + 1) (lv' := [(5, .int (x + 1)), (4, .int x), (0, .ref (ad 100)), (2, .ref (ad (2000 + Int32.toNatClampNeg k))), (3, .int (r 47 (Int32.toNatClampNeg (r 25 (Int32.toNatClampNeg k)))))]) hx hb dX9_origin_87 hl (k := 4) rfl (by rfl) (by decide) rfl (fun ls hl => ?_)
              refine lv_goto (tgt := 43) hx hb dX9_origin_90 (by decide) ?_
              exact ih  (i + 1) (x + 1) x (by rw [ex]; exact nI_1 i) (hlt) (by omega) (by rw [← hF, show (s 6).toNatClampNeg - i = ((s 6).toNatClampNeg - (i + 1)) + 1 by omega]; simp only [koF, ← ex, eq_true c11, eq_false c52, eq_false c72, eq_true c78, ↓reduceIte]) _ _ hG hL _ (lv_sub hl [2, 3, 4, 1, 0] rfl)
            ·
              refine lv_iconst (v := (-1)) hx hb dX9_origin_81 (by decide) ?_
              exact x_iret S.1 hr hlocks hG hL (by simp only [xOg, eq_false (xNm_n ht2), eq_true c11, eq_false c52, eq_false c72, eq_false c78, if_true, if_false]) (congrArg (fun z => some (Value.int z)) (by rw [← hF, show (s 6).toNatClampNeg - i = ((s 6).toNatClampNeg - (i + 1)) + 1 by omega]; simp only [koF, eq_true c11, eq_false c52, eq_false c72, eq_false c78, ↓reduceIte])) (congr (congrArg (kJ ce0 ad K.2.2.1 cI cB cO cR) (by rfl)) (by rfl)) dX9_origin_82 (Nat.le_of_ble_eq_true rfl) (Nat.le_of_ble_eq_true rfl)
    exact LP ((s 6).toNatClampNeg + 1) 0 0 (-1) (rfl) (Nat.zero_le _) (by omega) (rfl) _ _ hG hL _ (lv_sub hl [4, 3, 2, 1, 0] rfl)
  ·
    exact k_throwW (cls := "java/lang/IllegalStateException") (text := "nobody has the swarm") (i := 24) S hst hH hG hL (by decide +kernel) (hts (.classLink RX9 117 "java/lang/IllegalStateException") (by decide +kernel)) (hts (.initialized "java/lang/IllegalStateException") (by decide +kernel)) rfl (fun w h => List.mem_cons_of_mem _ (List.mem_append_left _ (List.mem_append_right _ h))) (by decide +kernel) (by decide +kernel) (by decide +kernel) hl.1 dX9_origin_14 dX9_origin_17 dX9_origin_18 dX9_origin_21 dX9_origin_24 hout (Nat.le_of_ble_eq_true rfl) (Nat.le_of_ble_eq_true rfl) (Nat.le_of_ble_eq_true rfl) (Nat.le_of_ble_eq_true rfl) hlocks (by simp only [xOg, eq_false (xNm_n ht2), eq_false c11, if_true, if_false]) (congr (congrArg (kJ ce0 ad K.2.2.1 cI cB cO cR) (by rfl)) (by rfl)) (Nat.le_of_ble_eq_true rfl) (Nat.le_of_ble_eq_true rfl)
