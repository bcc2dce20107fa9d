/-! the facts of a text; the swarm's origin; sending; how many at once -/
def rdB (now : Int32) (s : Nat → Int32) (r : Nat → Nat → Int32) : FS :=
  if kIw 12 s r = 0 then
    (if kIw 13 s r = 0 then
      (if kIw 14 s r = 0 then
        (if kIw 15 s r = 0 then
          (if kIw 16 s r = 0 then (0, upd s 109 (if s 109 = 0 then 0 else 1)) else if s 109 = 0 then (1, upd s 109 1) else (0, upd s 109 1))
        else if s 108 = 0 then ((if (rfX 108 1 7 s r).1 = 0 then 0 else 1), (rfX 108 1 7 s r).2) else (0, s))
      else if s 107 = -1 then ((if (rfX 107 0 now s r).1 = 0 then 0 else 1), (rfX 107 0 now s r).2) else (0, s))
    else if s 106 = 0 then ((if (rfX 106 1 9 s r).1 = 0 then 0 else 1), (rfX 106 1 9 s r).2) else (0, s))
  else if s 104 = -1 then ((if (rpX s r).1 = 0 then 0 else 1), (rpX s r).2) else (0, s)
theorem tR_up {s : Nat → Int32} (h : tR s) {f : Nat} (h1 : ¬ f = 61) (h2 : ¬ f = 102) (v : Int32) : tR (upd s f v) := by
  have e1 : upd s f v 61 = s 61 := by simp [upd, fun z => h1 (Eq.symm z)]
  have e2 : upd s f v 102 = s 102 := by simp [upd, fun z => h2 (Eq.symm z)]
  unfold tR
  rw [e1, e2]
  exact h
theorem rfX_R {f : Nat} {lo hi : Int32} {s : Nat → Int32} {r : Nat → Nat → Int32} (h : tR s) (h1 : ¬ f = 61) (h2 : ¬ f = 102) : tR (rfX f lo hi s r).2 := tR_up (ad_R h) h1 h2 _
theorem rpX_R {s : Nat → Int32} {r : Nat → Nat → Int32} (h : tR s) : tR (rpX s r).2 := by
  unfold rpX
  split
  · exact tR_up (ad_R h) (by decide) (by decide) _
  · exact rfX_R (tR_up (ad_R h) (by decide) (by decide) _) (by decide) (by decide)
theorem rdB_R {now : Int32} {s : Nat → Int32} {r : Nat → Nat → Int32} (h : tR s) : tR (rdB now s r).2 := by
  unfold rdB
  repeat' split
  all_goals first | exact h | exact rpX_R h | exact rfX_R h (by decide) (by decide) | exact tR_up h (by decide) (by decide) _
def rdG (now : Int32) (r : Nat → Nat → Int32) : Nat → (Nat → Int32) → FS
  | 0, s => (0, adS s r)
  | k + 1, s => if (rdB now (adS s r) r).1 = 0 then (0, (rdB now (adS s r) r).2) else if kSg 44 (adS (rdB now (adS s r) r).2 r) r = 0 then ((if kAe (adS (rdB now (adS s r) r).2 r) = 0 then 0 else if adS (rdB now (adS s r) r).2 r 104 = -1 then 0 else 1), adS (rdB now (adS s r) r).2 r) else rdG now r k (adS (rdB now (adS s r) r).2 r)
def fgS (s : Nat → Int32) : Nat → Int32 := upd (upd (upd (upd (upd (upd s 104 (-1)) 105 (-1)) 106 0) 107 (-1)) 108 0) 109 0
def rdZ (now : Int32) (s : Nat → Int32) (r : Nat → Nat → Int32) : FS := rdG now r 5 (upd (fgS s) 102 0)
def km1 (s : Nat → Int32) (r0 : Nat → Nat → Int32) : Nat → Nat → Nat → (Nat → Nat → Int32) → Nat × (Nat → Nat → Int32)
  | 0, _, n, r => (n, r)
  | k + 1, c, n, r => if 8 ≤ n then (n, r) else if r0 41 c = 0 then km1 s r0 k (c + 1) (n + 1) (up2 r 100 n (kwF c s r0 (s 26).toNatClampNeg)) else km1 s r0 k (c + 1) n r
def kmN (s : Nat → Int32) (r : Nat → Nat → Int32) : Nat := (km1 s r (s 39).toNatClampNeg 0 0 r).1
def kmR (s : Nat → Int32) (r : Nat → Nat → Int32) : Nat → Nat → Int32 := (km1 s r (s 39).toNatClampNeg 0 0 r).2
def kmV (s : Nat → Int32) (r : Nat → Nat → Int32) : Int32 := gmO (kmR s r) (nI (kmN s r)) (2 ^ (nI (kmN s r)).toNatClampNeg)
def o100 (r r' : Nat → Nat → Int32) : Prop := ∀ f, ¬ f = 100 → r' f = r f
theorem o100_up {r r' : Nat → Nat → Int32} (h : o100 r r') (i : Nat) (x : Int32) : o100 r (up2 r' 100 i x) := fun f h1 => (up2_nn _ _ _ h1).trans (h f h1)
theorem kwF_o {r r' : Nat → Nat → Int32} (h : o100 r r') (j : Nat) (s : Nat → Int32) : ∀ n, kwF j s r' n = kwF j s r n
  | 0 => rfl
  | n + 1 => by
    have e : ∀ f, f < 100 → r' f = r f := fun f hf => h f (by omega)
    simp only [kwF, kwF_o h j s n, kAg, kOd, hgV, kHt, e 27 (by decide), e 28 (by decide), e 29 (by decide), e 30 (by decide), e 31 (by decide), e 32 (by decide), e 33 (by decide), e 34 (by decide), e 42 (by decide), e 43 (by decide), e 45 (by decide), e 46 (by decide), fGo_eq (s' := s) rfl (e 2 (by decide)) (e 4 (by decide)) (e 5 (by decide))]

set_option maxHeartbeats 4000000 in
set_option maxRecDepth 100000 in
theorem c_X2_readFact {l : Launch} {D : va_G} {cI cZ cB cO cR cJ : ClassId} {Hb : Heap} {K : kTx} {lv : Nat → Prop} {ad : Nat → Nat} {ce0 : Nat → va_E} (s : Nat → Int32) (r : Nat → Nat → Int32) (hlv : kL lv s) (now : Int32) (hB : tW s) (hT : hTp r) : kMet l D cI cZ cB cO cR cJ Hb K lv ad ce0 yX2_readFact wsX2_readFact 5 107 [.ref (ad 102), .ref (ad 101), .int now] s r (some (.int ((rdB now s r).1))) ((rdB now s r).2) r := by
  refine Met.ofW (cc := cX2_readFact) (maxL := 4) (ret := (some .boolean)) (by decide) rfl ?_
  intro p0 e0 s0 m0 args below meth c0 s₁ B hml hv
  obtain ⟨rfl, hG, hK, hE⟩ := hv
  have hx := B.exec
  have hb := B.bytes
  have hr := B.returns
  have hts := atoms_spec (ws := wsX2_readFact) B.pre
  have hown : s0.vm.findClass RX2 = some m0.cls := findClass_of_methodNamed B.named
  have hlocks := B.notSynchronized
  have S : kX p0 m0 c0 cX2_readFact 4 s0 _ wsX2_readFact RX2 D (tyL cI cZ cB cO cR cJ) Hb K := ⟨⟨hx, hb, hml, hown, hts⟩, hK, hE⟩
  have hL : gL Hb [] := gL.nil
  have hH := hG.2.2.2.2
  have hl := lv_entry ([.ref (ad 102), .ref (ad 101), .int now]) (n := 4) (Nat.le_of_ble_eq_true rfl)
  rw [lg_entry_eq]
  generalize (lg_sl ([.ref (ad 102), .ref (ad 101), .int now]) ++ List.replicate (4 - (lg_sl ([.ref (ad 102), .ref (ad 101), .int now])).length) Slot.unset).toArray = ls at hl ⊢
  have hl : lv_has ls 4 [(0, .ref (ad 102)), (1, .ref (ad 101)), (2, .int now)] := hl
  refine lv_aload_n hx hb dX2_readFact_0 rfl (lv_at hl 1 rfl) ?_
  refine k_ldcS (i := 12) (text := "at") S rfl dX2_readFact_1 ?_
  refine k_callV (n := 1) (As := [.ref (K.1 12)]) (rest := []) (st1 := .int (kIw 12 s r) :: []) (k := 101) (ci := 8) S hG hL (hlv.f (by decide) (by decide)) rfl rfl (c_X7_isWord s r hlv  12 (by decide) (hB)) gX2_readFact_X7_isWord rfl ⟨rfl, rfl⟩ (by decide +kernel) ⟨Nat.le_of_ble_eq_true rfl, Nat.le_of_ble_eq_true rfl⟩ rfl hl.1 rfl (Nat.le_of_ble_eq_true rfl) dX2_readFact_3 ⟨Nat.zero_le _, Nat.zero_le _⟩ (rfl) (fun H locs hG hL => ?_)
  refine lv_if_eq (tgt := 31) hx hb dX2_readFact_6 (by decide) (fun c6 => ?_) (fun c6 => ?_)
  ·
    refine lv_aload_n hx hb dX2_readFact_31 rfl (lv_at hl 1 rfl) ?_
    refine k_ldcS (i := 13) (text := "high") S rfl dX2_readFact_32 ?_
    refine k_callV (n := 1) (As := [.ref (K.1 13)]) (rest := []) (st1 := .int (kIw 13 s r) :: []) (k := 101) (ci := 8) S hG hL (hlv.f (by decide) (by decide)) rfl rfl (c_X7_isWord s r hlv  13 (by decide) (hB)) gX2_readFact_X7_isWord rfl ⟨rfl, rfl⟩ (by decide +kernel) ⟨Nat.le_of_ble_eq_true rfl, Nat.le_of_ble_eq_true rfl⟩ rfl hl.1 rfl (Nat.le_of_ble_eq_true rfl) dX2_readFact_34 ⟨Nat.zero_le _, Nat.zero_le _⟩ (rfl) (fun H locs hG hL => ?_)
    refine lv_if_eq (tgt := 61) hx hb dX2_readFact_37 (by decide) (fun c37 => ?_) (fun c37 => ?_)
    ·
      refine lv_aload_n hx hb dX2_readFact_61 rfl (lv_at hl 1 rfl) ?_
      refine k_ldcS (i := 14) (text := "since") S rfl dX2_readFact_62 ?_
      refine k_callV (n := 1) (As := [.ref (K.1 14)]) (rest := []) (st1 := .int (kIw 14 s r) :: []) (k := 101) (ci := 8) S hG hL (hlv.f (by decide) (by decide)) rfl rfl (c_X7_isWord s r hlv  14 (by decide) (hB)) gX2_readFact_X7_isWord rfl ⟨rfl, rfl⟩ (by decide +kernel) ⟨Nat.le_of_ble_eq_true rfl, Nat.le_of_ble_eq_true rfl⟩ rfl hl.1 rfl (Nat.le_of_ble_eq_true rfl) dX2_readFact_64 ⟨Nat.zero_le _, Nat.zero_le _⟩ (rfl) (fun H locs hG hL => ?_)
      refine lv_if_eq (tgt := 93) hx hb dX2_readFact_67 (by decide) (fun c67 => ?_) (fun c67 => ?_)
      ·
        refine lv_aload_n hx hb dX2_readFact_93 rfl (lv_at hl 1 rfl) ?_
        refine k_ldcS (i := 15) (text := "mark") S rfl dX2_readFact_94 ?_
        refine k_callV (n := 1) (As := [.ref (K.1 15)]) (rest := []) (st1 := .int (kIw 15 s r) :: []) (k := 101) (ci := 8) S hG hL (hlv.f (by decide) (by decide)) rfl rfl (c_X7_isWord s r hlv  15 (by decide) (hB)) gX2_readFact_X7_isWord rfl ⟨rfl, rfl⟩ (by decide +kernel) ⟨Nat.le_of_ble_eq_true rfl, Nat.le_of_ble_eq_true rfl⟩ rfl hl.1 rfl (Nat.le_of_ble_eq_true rfl) dX2_readFact_96 ⟨Nat.zero_le _, Nat.zero_le _⟩ (rfl) (fun H locs hG hL => ?_)
        refine lv_if_eq (tgt := 123) hx hb dX2_readFact_99 (by decide) (fun c99 => ?_) (fun c99 => ?_)
        ·
          refine lv_aload_n hx hb dX2_readFact_123 rfl (lv_at hl 1 rfl) ?_
          refine k_ldcS (i := 16) (text := "maybe") S rfl dX2_readFact_124 ?_
          refine k_callV (n := 1) (As := [.ref (K.1 16)]) (rest := []) (st1 := .int (kIw 16 s r) :: []) (k := 101) (ci := 8) S hG hL (hlv.f (by decide) (by decide)) rfl rfl (c_X7_isWord s r hlv  16 (by decide) (hB)) gX2_readFact_X7_isWord rfl ⟨rfl, rfl⟩ (by decide +kernel) ⟨Nat.le_of_ble_eq_true rfl, Nat.le_of_ble_eq_true rfl⟩ rfl hl.1 rfl (Nat.le_of_ble_eq_true rfl) dX2_readFact_126 ⟨Nat.zero_le _, Nat.zero_le _⟩ (rfl) (fun H locs hG hL => ?_)
          refine lv_if_eq (tgt := 143) hx hb dX2_readFact_129 (by decide) (fun c129 => ?_) (fun c129 => ?_)
          ·
            refine lv_iconst (v := 0) hx hb dX2_readFact_143 (by decide) ?_
            refine lv_istore_n (lv' := [(3, .int 0), (0, .ref (ad 102)), (1, .ref (ad 101)), (2, .int now)]) hx hb dX2_readFact_144 rfl hl (by decide) rfl (fun ls hl => ?_)
            refine lv_aload_n hx hb dX2_readFact_145 rfl (lv_at hl 1 rfl) ?_
            refine lv_aload_n hx hb dX2_readFact_146 rfl (lv_at hl 1 rfl) ?_
            refine k_gi (C := RX2) (T := TX2) (N := 6) (ci := 3) (v := s 109) S hG (fun w h => List.mem_cons_of_mem _ (List.mem_append_left _ (List.mem_append_right _ h))) 102 (hlv.f (by decide) (by decide)) rfl rfl 5 (by decide) rfl (hts (.fieldLink RX2 50 "SwarmLine$Facts" "maybe" "Z") (by decide +kernel)) rfl (rfl) dX2_readFact_147 ?_
            refine lv_if_ne (tgt := 157) hx hb dX2_readFact_150 (by decide) (fun c150 => ?_) (fun c150 => ?_)
            ·
              refine lv_iconst (v := 1) hx hb dX2_readFact_157 (by decide) ?_
              refine lv_goto (tgt := 162) hx hb dX2_readFact_158 (by decide) ?_
              refine k_pi (C := RX2) (T := TX2) (N := 6) (ci := 3) (ty := .boolean) S hG hL (fun w h => List.mem_cons_of_mem _ (List.mem_append_left _ (List.mem_append_right _ h))) tyX2 tyX2_ok nmX2 102 (hlv.f (by decide) (by decide)) rfl rfl 5 (by decide) rfl (hts (.fieldLink RX2 50 "SwarmLine$Facts" "maybe" "Z") (by decide +kernel)) rfl (by decide +kernel) (by decide) (by decide) (Nat.le_of_ble_eq_true rfl) (kw_102_maybe _) dX2_readFact_162 (fun H locs hG hL => ?_)
              refine lv_iload_n hx hb dX2_readFact_165 rfl (lv_at hl 0 rfl) ?_
              exact g_zret S.1 hr hlocks (by decide) hG hL (congrArg (fun z => some (Value.int z)) (by simp only [rdB, eq_true c6, eq_true c37, eq_true c67, eq_true c99, eq_true c129, eq_false c150, if_true, if_false])) (congr (congrArg (kJ ce0 ad K.2.2.1 cI cB cO cR) (by simp only [rdB, eq_true c6, eq_true c37, eq_true c67, eq_true c99, eq_true c129, eq_false c150, if_true, if_false])) (by rfl)) dX2_readFact_166
            ·
              refine lv_iload_n hx hb dX2_readFact_153 rfl (lv_at hl 0 rfl) ?_
              refine lv_if_eq (tgt := 161) hx hb dX2_readFact_154 (by decide) (fun _ => ?_) (fun c => absurd c (by decide))
              refine lv_iconst (v := 0) hx hb dX2_readFact_161 (by decide) ?_
              refine k_pi (C := RX2) (T := TX2) (N := 6) (ci := 3) (ty := .boolean) S hG hL (fun w h => List.mem_cons_of_mem _ (List.mem_append_left _ (List.mem_append_right _ h))) tyX2 tyX2_ok nmX2 102 (hlv.f (by decide) (by decide)) rfl rfl 5 (by decide) rfl (hts (.fieldLink RX2 50 "SwarmLine$Facts" "maybe" "Z") (by decide +kernel)) rfl (by decide +kernel) (by decide) (by decide) (Nat.le_of_ble_eq_true rfl) (kw_102_maybe _) dX2_readFact_162 (fun H locs hG hL => ?_)
              refine lv_iload_n hx hb dX2_readFact_165 rfl (lv_at hl 0 rfl) ?_
              exact g_zret S.1 hr hlocks (by decide) hG hL (congrArg (fun z => some (Value.int z)) (by simp only [rdB, eq_true c6, eq_true c37, eq_true c67, eq_true c99, eq_true c129, eq_true c150, if_true, if_false])) (congr (congrArg (kJ ce0 ad K.2.2.1 cI cB cO cR) (by simp only [rdB, eq_true c6, eq_true c37, eq_true c67, eq_true c99, eq_true c129, eq_true c150, if_true, if_false])) (by rfl)) dX2_readFact_166
          ·
            refine lv_aload_n hx hb dX2_readFact_132 rfl (lv_at hl 0 rfl) ?_
            refine k_gi (C := RX2) (T := TX2) (N := 6) (ci := 3) (v := s 109) S hG (fun w h => List.mem_cons_of_mem _ (List.mem_append_left _ (List.mem_append_right _ h))) 102 (hlv.f (by decide) (by decide)) rfl rfl 5 (by decide) rfl (hts (.fieldLink RX2 50 "SwarmLine$Facts" "maybe" "Z") (by decide +kernel)) rfl (rfl) dX2_readFact_133 ?_
            refine lv_if_ne (tgt := 143) hx hb dX2_readFact_136 (by decide) (fun c136 => ?_) (fun c136 => ?_)
            ·
              refine lv_iconst (v := 0) hx hb dX2_readFact_143 (by decide) ?_
              refine lv_istore_n (lv' := [(3, .int 0), (0, .ref (ad 102)), (1, .ref (ad 101)), (2, .int now)]) hx hb dX2_readFact_144 rfl hl (by decide) rfl (fun ls hl => ?_)
              refine lv_aload_n hx hb dX2_readFact_145 rfl (lv_at hl 1 rfl) ?_
              refine lv_aload_n hx hb dX2_readFact_146 rfl (lv_at hl 1 rfl) ?_
              refine k_gi (C := RX2) (T := TX2) (N := 6) (ci := 3) (v := s 109) S hG (fun w h => List.mem_cons_of_mem _ (List.mem_append_left _ (List.mem_append_right _ h))) 102 (hlv.f (by decide) (by decide)) rfl rfl 5 (by decide) rfl (hts (.fieldLink RX2 50 "SwarmLine$Facts" "maybe" "Z") (by decide +kernel)) rfl (rfl) dX2_readFact_147 ?_
              refine lv_if_ne (tgt := 157) hx hb dX2_readFact_150 (by decide) (fun c150 => ?_) (fun c150 => absurd c150 (c136))
              refine lv_iconst (v := 1) hx hb dX2_readFact_157 (by decide) ?_
              refine lv_goto (tgt := 162) hx hb dX2_readFact_158 (by decide) ?_
              refine k_pi (C := RX2) (T := TX2) (N := 6) (ci := 3) (ty := .boolean) S hG hL (fun w h => List.mem_cons_of_mem _ (List.mem_append_left _ (List.mem_append_right _ h))) tyX2 tyX2_ok nmX2 102 (hlv.f (by decide) (by decide)) rfl rfl 5 (by decide) rfl (hts (.fieldLink RX2 50 "SwarmLine$Facts" "maybe" "Z") (by decide +kernel)) rfl (by decide +kernel) (by decide) (by decide) (Nat.le_of_ble_eq_true rfl) (kw_102_maybe _) dX2_readFact_162 (fun H locs hG hL => ?_)
              refine lv_iload_n hx hb dX2_readFact_165 rfl (lv_at hl 0 rfl) ?_
              exact g_zret S.1 hr hlocks (by decide) hG hL (congrArg (fun z => some (Value.int z)) (by simp only [rdB, eq_true c6, eq_true c37, eq_true c67, eq_true c99, eq_false c129, eq_false c136, eq_false c150, if_true, if_false])) (congr (congrArg (kJ ce0 ad K.2.2.1 cI cB cO cR) (by simp only [rdB, eq_true c6, eq_true c37, eq_true c67, eq_true c99, eq_false c129, eq_false c136, eq_false c150, if_true, if_false])) (by rfl)) dX2_readFact_166
            ·
              refine lv_iconst (v := 1) hx hb dX2_readFact_139 (by decide) ?_
              refine lv_goto (tgt := 144) hx hb dX2_readFact_140 (by decide) ?_
              refine lv_istore_n (lv' := [(3, .int 1), (0, .ref (ad 102)), (1, .ref (ad 101)), (2, .int now)]) hx hb dX2_readFact_144 rfl hl (by decide) rfl (fun ls hl => ?_)
              refine lv_aload_n hx hb dX2_readFact_145 rfl (lv_at hl 1 rfl) ?_
              refine lv_aload_n hx hb dX2_readFact_146 rfl (lv_at hl 1 rfl) ?_
              refine k_gi (C := RX2) (T := TX2) (N := 6) (ci := 3) (v := s 109) S hG (fun w h => List.mem_cons_of_mem _ (List.mem_append_left _ (List.mem_append_right _ h))) 102 (hlv.f (by decide) (by decide)) rfl rfl 5 (by decide) rfl (hts (.fieldLink RX2 50 "SwarmLine$Facts" "maybe" "Z") (by decide +kernel)) rfl (rfl) dX2_readFact_147 ?_
              refine lv_if_ne (tgt := 157) hx hb dX2_readFact_150 (by decide) (fun c150 => absurd c150 (fun z => z c136)) (fun c150 => ?_)
              refine lv_iload_n hx hb dX2_readFact_153 rfl (lv_at hl 0 rfl) ?_
              refine lv_if_eq (tgt := 161) hx hb dX2_readFact_154 (by decide) (fun c => absurd c (by decide)) (fun _ => ?_)
              refine lv_iconst (v := 1) hx hb dX2_readFact_157 (by decide) ?_
              refine lv_goto (tgt := 162) hx hb dX2_readFact_158 (by decide) ?_
              refine k_pi (C := RX2) (T := TX2) (N := 6) (ci := 3) (ty := .boolean) S hG hL (fun w h => List.mem_cons_of_mem _ (List.mem_append_left _ (List.mem_append_right _ h))) tyX2 tyX2_ok nmX2 102 (hlv.f (by decide) (by decide)) rfl rfl 5 (by decide) rfl (hts (.fieldLink RX2 50 "SwarmLine$Facts" "maybe" "Z") (by decide +kernel)) rfl (by decide +kernel) (by decide) (by decide) (Nat.le_of_ble_eq_true rfl) (kw_102_maybe _) dX2_readFact_162 (fun H locs hG hL => ?_)
              refine lv_iload_n hx hb dX2_readFact_165 rfl (lv_at hl 0 rfl) ?_
              exact g_zret S.1 hr hlocks (by decide) hG hL (congrArg (fun z => some (Value.int z)) (by simp only [rdB, eq_true c6, eq_true c37, eq_true c67, eq_true c99, eq_false c129, eq_true c136, eq_true c150, if_true, if_false])) (congr (congrArg (kJ ce0 ad K.2.2.1 cI cB cO cR) (by simp only [rdB, eq_true c6, eq_true c37, eq_true c67, eq_true c99, eq_false c129, eq_true c136, eq_true c150, if_true, if_false])) (by rfl)) dX2_readFact_166
        ·
          refine lv_aload_n hx hb dX2_readFact_102 rfl (lv_at hl 0 rfl) ?_
          refine k_gi (C := RX2) (T := TX2) (N := 6) (ci := 3) (v := s 108) S hG (fun w h => List.mem_cons_of_mem _ (List.mem_append_left _ (List.mem_append_right _ h))) 102 (hlv.f (by decide) (by decide)) rfl rfl 4 (by decide) rfl (hts (.fieldLink RX2 47 "SwarmLine$Facts" "mark" "I") (by decide +kernel)) rfl (rfl) dX2_readFact_103 ?_
          refine lv_if_ne (tgt := 121) hx hb dX2_readFact_106 (by decide) (fun c106 => ?_) (fun c106 => ?_)
          ·
            refine lv_iconst (v := 0) hx hb dX2_readFact_121 (by decide) ?_
            exact g_zret S.1 hr hlocks (by decide) hG hL (congrArg (fun z => some (Value.int z)) (by simp only [rdB, eq_true c6, eq_true c37, eq_true c67, eq_false c99, eq_false c106, if_true, if_false])) (congr (congrArg (kJ ce0 ad K.2.2.1 cI cB cO cR) (by simp only [rdB, eq_true c6, eq_true c37, eq_true c67, eq_false c99, eq_false c106, if_true, if_false])) (by rfl)) dX2_readFact_122
          ·
            refine lv_aload_n hx hb dX2_readFact_109 rfl (lv_at hl 0 rfl) ?_
            refine lv_aload_n hx hb dX2_readFact_110 rfl (lv_at hl 1 rfl) ?_
            refine k_callV (n := 1) (As := [.ref (ad 101)]) (rest := []) (st1 := .int ((rfX 108 1 7 s r).1) :: []) (k := 102) (ci := 3) S hG hL (hlv.f (by decide) (by decide)) rfl rfl (c_X2_readMark s r hlv   (hB.1) (hT)) gX2_readFact_X2_readMark rfl ⟨rfl, rfl⟩ (by decide +kernel) ⟨Nat.le_of_ble_eq_true rfl, Nat.le_of_ble_eq_true rfl⟩ rfl hl.1 rfl (Nat.le_of_ble_eq_true rfl) dX2_readFact_111 ⟨Nat.zero_le _, Nat.zero_le _⟩ (rfl) (fun H locs hG hL => ?_)
            refine lv_if_eq (tgt := 121) hx hb dX2_readFact_114 (by decide) (fun c114 => ?_) (fun c114 => ?_)
            ·
              refine lv_iconst (v := 0) hx hb dX2_readFact_121 (by decide) ?_
              exact g_zret S.1 hr hlocks (by decide) hG hL (congrArg (fun z => some (Value.int z)) (by simp only [rdB, eq_true c6, eq_true c37, eq_true c67, eq_false c99, eq_true c106, eq_true c114, if_true, if_false])) (congr (congrArg (kJ ce0 ad K.2.2.1 cI cB cO cR) (by simp only [rdB, eq_true c6, eq_true c37, eq_true c67, eq_false c99, eq_true c106, eq_true c114, if_true, if_false])) (by rfl)) dX2_readFact_122
            ·
              refine lv_iconst (v := 1) hx hb dX2_readFact_117 (by decide) ?_
              refine lv_goto (tgt := 122) hx hb dX2_readFact_118 (by decide) ?_
              exact g_zret S.1 hr hlocks (by decide) hG hL (congrArg (fun z => some (Value.int z)) (by simp only [rdB, eq_true c6, eq_true c37, eq_true c67, eq_false c99, eq_true c106, eq_false c114, if_true, if_false])) (congr (congrArg (kJ ce0 ad K.2.2.1 cI cB cO cR) (by simp only [rdB, eq_true c6, eq_true c37, eq_true c67, eq_false c99, eq_true c106, eq_false c114, if_true, if_false])) (by rfl)) dX2_readFact_122
      ·
        refine lv_aload_n hx hb dX2_readFact_70 rfl (lv_at hl 0 rfl) ?_
        refine k_gi (C := RX2) (T := TX2) (N := 6) (ci := 3) (v := s 107) S hG (fun w h => List.mem_cons_of_mem _ (List.mem_append_left _ (List.mem_append_right _ h))) 102 (hlv.f (by decide) (by decide)) rfl rfl 3 (by decide) rfl (hts (.fieldLink RX2 44 "SwarmLine$Facts" "since" "I") (by decide +kernel)) rfl (rfl) dX2_readFact_71 ?_
        refine lv_iconst (v := (-1)) hx hb dX2_readFact_74 (by decide) ?_
        refine lv_icmp_ne (tgt := 91) hx hb dX2_readFact_75 (by decide) (fun c75 => ?_) (fun c75 => ?_)
        ·
          refine lv_iconst (v := 0) hx hb dX2_readFact_91 (by decide) ?_
          exact g_zret S.1 hr hlocks (by decide) hG hL (congrArg (fun z => some (Value.int z)) (by simp only [rdB, eq_true c6, eq_true c37, eq_false c67, eq_false c75, if_true, if_false])) (congr (congrArg (kJ ce0 ad K.2.2.1 cI cB cO cR) (by simp only [rdB, eq_true c6, eq_true c37, eq_false c67, eq_false c75, if_true, if_false])) (by rfl)) dX2_readFact_92
        ·
          refine lv_aload_n hx hb dX2_readFact_78 rfl (lv_at hl 0 rfl) ?_
          refine lv_aload_n hx hb dX2_readFact_79 rfl (lv_at hl 1 rfl) ?_
          refine lv_iload_n hx hb dX2_readFact_80 rfl (lv_at hl 2 rfl) ?_
          refine k_callV (n := 2) (As := [.ref (ad 101), .int now]) (rest := []) (st1 := .int ((rfX 107 0 now s r).1) :: []) (k := 102) (ci := 3) S hG hL (hlv.f (by decide) (by decide)) rfl rfl (c_X2_readSince s r hlv   now (hB.1) (hT)) gX2_readFact_X2_readSince rfl ⟨rfl, rfl⟩ (by decide +kernel) ⟨Nat.le_of_ble_eq_true rfl, Nat.le_of_ble_eq_true rfl⟩ rfl hl.1 rfl (Nat.le_of_ble_eq_true rfl) dX2_readFact_81 ⟨Nat.zero_le _, Nat.zero_le _⟩ (rfl) (fun H locs hG hL => ?_)
          refine lv_if_eq (tgt := 91) hx hb dX2_readFact_84 (by decide) (fun c84 => ?_) (fun c84 => ?_)
          ·
            refine lv_iconst (v := 0) hx hb dX2_readFact_91 (by decide) ?_
            exact g_zret S.1 hr hlocks (by decide) hG hL (congrArg (fun z => some (Value.int z)) (by simp only [rdB, eq_true c6, eq_true c37, eq_false c67, eq_true c75, eq_true c84, if_true, if_false])) (congr (congrArg (kJ ce0 ad K.2.2.1 cI cB cO cR) (by simp only [rdB, eq_true c6, eq_true c37, eq_false c67, eq_true c75, eq_true c84, if_true, if_false])) (by rfl)) dX2_readFact_92
          ·
            refine lv_iconst (v := 1) hx hb dX2_readFact_87 (by decide) ?_
            refine lv_goto (tgt := 92) hx hb dX2_readFact_88 (by decide) ?_
            exact g_zret S.1 hr hlocks (by decide) hG hL (congrArg (fun z => some (Value.int z)) (by simp only [rdB, eq_true c6, eq_true c37, eq_false c67, eq_true c75, eq_false c84, if_true, if_false])) (congr (congrArg (kJ ce0 ad K.2.2.1 cI cB cO cR) (by simp only [rdB, eq_true c6, eq_true c37, eq_false c67, eq_true c75, eq_false c84, if_true, if_false])) (by rfl)) dX2_readFact_92
    ·
      refine lv_aload_n hx hb dX2_readFact_40 rfl (lv_at hl 0 rfl) ?_
      refine k_gi (C := RX2) (T := TX2) (N := 6) (ci := 3) (v := s 106) S hG (fun w h => List.mem_cons_of_mem _ (List.mem_append_left _ (List.mem_append_right _ h))) 102 (hlv.f (by decide) (by decide)) rfl rfl 2 (by decide) rfl (hts (.fieldLink RX2 41 "SwarmLine$Facts" "high" "I") (by decide +kernel)) rfl (rfl) dX2_readFact_41 ?_
      refine lv_if_ne (tgt := 59) hx hb dX2_readFact_44 (by decide) (fun c44 => ?_) (fun c44 => ?_)
      ·
        refine lv_iconst (v := 0) hx hb dX2_readFact_59 (by decide) ?_
        exact g_zret S.1 hr hlocks (by decide) hG hL (congrArg (fun z => some (Value.int z)) (by simp only [rdB, eq_true c6, eq_false c37, eq_false c44, if_true, if_false])) (congr (congrArg (kJ ce0 ad K.2.2.1 cI cB cO cR) (by simp only [rdB, eq_true c6, eq_false c37, eq_false c44, if_true, if_false])) (by rfl)) dX2_readFact_60
      ·
        refine lv_aload_n hx hb dX2_readFact_47 rfl (lv_at hl 0 rfl) ?_
        refine lv_aload_n hx hb dX2_readFact_48 rfl (lv_at hl 1 rfl) ?_
        refine k_callV (n := 1) (As := [.ref (ad 101)]) (rest := []) (st1 := .int ((rfX 106 1 9 s r).1) :: []) (k := 102) (ci := 3) S hG hL (hlv.f (by decide) (by decide)) rfl rfl (c_X2_readHigh s r hlv   (hB.1) (hT)) gX2_readFact_X2_readHigh rfl ⟨rfl, rfl⟩ (by decide +kernel) ⟨Nat.le_of_ble_eq_true rfl, Nat.le_of_ble_eq_true rfl⟩ rfl hl.1 rfl (Nat.le_of_ble_eq_true rfl) dX2_readFact_49 ⟨Nat.zero_le _, Nat.zero_le _⟩ (rfl) (fun H locs hG hL => ?_)
        refine lv_if_eq (tgt := 59) hx hb dX2_readFact_52 (by decide) (fun c52 => ?_) (fun c52 => ?_)
        ·
          refine lv_iconst (v := 0) hx hb dX2_readFact_59 (by decide) ?_
          exact g_zret S.1 hr hlocks (by decide) hG hL (congrArg (fun z => some (Value.int z)) (by simp only [rdB, eq_true c6, eq_false c37, eq_true c44, eq_true c52, if_true, if_false])) (congr (congrArg (kJ ce0 ad K.2.2.1 cI cB cO cR) (by simp only [rdB, eq_true c6, eq_false c37, eq_true c44, eq_true c52, if_true, if_false])) (by rfl)) dX2_readFact_60
        ·
          refine lv_iconst (v := 1) hx hb dX2_readFact_55 (by decide) ?_
          refine lv_goto (tgt := 60) hx hb dX2_readFact_56 (by decide) ?_
          exact g_zret S.1 hr hlocks (by decide) hG hL (congrArg (fun z => some (Value.int z)) (by simp only [rdB, eq_true c6, eq_false c37, eq_true c44, eq_false c52, if_true, if_false])) (congr (congrArg (kJ ce0 ad K.2.2.1 cI cB cO cR) (by simp only [rdB, eq_true c6, eq_false c37, eq_true c44, eq_false c52, if_true, if_false])) (by rfl)) dX2_readFact_60
  ·
    refine lv_aload_n hx hb dX2_readFact_9 rfl (lv_at hl 0 rfl) ?_
    refine k_gi (C := RX2) (T := TX2) (N := 6) (ci := 3) (v := s 104) S hG (fun w h => List.mem_cons_of_mem _ (List.mem_append_left _ (List.mem_append_right _ h))) 102 (hlv.f (by decide) (by decide)) rfl rfl 0 (by decide) rfl (hts (.fieldLink RX2 34 "SwarmLine$Facts" "x" "I") (by decide +kernel)) rfl (rfl) dX2_readFact_10 ?_
    refine lv_iconst (v := (-1)) hx hb dX2_readFact_13 (by decide) ?_
    refine lv_icmp_ne (tgt := 29) hx hb dX2_readFact_14 (by decide) (fun c14 => ?_) (fun c14 => ?_)
    ·
      refine lv_iconst (v := 0) hx hb dX2_readFact_29 (by decide) ?_
      exact g_zret S.1 hr hlocks (by decide) hG hL (congrArg (fun z => some (Value.int z)) (by simp only [rdB, eq_false c6, eq_false c14, if_true, if_false])) (congr (congrArg (kJ ce0 ad K.2.2.1 cI cB cO cR) (by simp only [rdB, eq_false c6, eq_false c14, if_true, if_false])) (by rfl)) dX2_readFact_30
    ·
      refine lv_aload_n hx hb dX2_readFact_17 rfl (lv_at hl 0 rfl) ?_
      refine lv_aload_n hx hb dX2_readFact_18 rfl (lv_at hl 1 rfl) ?_
      refine k_callV (n := 1) (As := [.ref (ad 101)]) (rest := []) (st1 := .int ((rpX s r).1) :: []) (k := 102) (ci := 3) S hG hL (hlv.f (by decide) (by decide)) rfl rfl (c_X2_readPlace s r hlv   (hB.1) (hT)) gX2_readFact_X2_readPlace rfl ⟨rfl, rfl⟩ (by decide +kernel) ⟨Nat.le_of_ble_eq_true rfl, Nat.le_of_ble_eq_true rfl⟩ rfl hl.1 rfl (Nat.le_of_ble_eq_true rfl) dX2_readFact_19 ⟨Nat.zero_le _, Nat.zero_le _⟩ (rfl) (fun H locs hG hL => ?_)
      refine lv_if_eq (tgt := 29) hx hb dX2_readFact_22 (by decide) (fun c22 => ?_) (fun c22 => ?_)
      ·
        refine lv_iconst (v := 0) hx hb dX2_readFact_29 (by decide) ?_
        exact g_zret S.1 hr hlocks (by decide) hG hL (congrArg (fun z => some (Value.int z)) (by simp only [rdB, eq_false c6, eq_true c14, eq_true c22, if_true, if_false])) (congr (congrArg (kJ ce0 ad K.2.2.1 cI cB cO cR) (by simp only [rdB, eq_false c6, eq_true c14, eq_true c22, if_true, if_false])) (by rfl)) dX2_readFact_30
      ·
        refine lv_iconst (v := 1) hx hb dX2_readFact_25 (by decide) ?_
        refine lv_goto (tgt := 30) hx hb dX2_readFact_26 (by decide) ?_
        exact g_zret S.1 hr hlocks (by decide) hG hL (congrArg (fun z => some (Value.int z)) (by simp only [rdB, eq_false c6, eq_true c14, eq_false c22, if_true, if_false])) (congr (congrArg (kJ ce0 ad K.2.2.1 cI cB cO cR) (by simp only [rdB, eq_false c6, eq_true c14, eq_false c22, if_true, if_false])) (by rfl)) dX2_readFact_30

set_option maxHeartbeats 4000000 in
set_option maxRecDepth 100000 in
theorem c_X2_readFrom {l : Launch} {D : va_G} {cI cZ cB cO cR cJ : ClassId} {Hb : Heap} {K : kTx} {lv : Nat → Prop} {ad : Nat → Nat} {ce0 : Nat → va_E} (s : Nat → Int32) (r : Nat → Nat → Int32) (hlv : kL lv s) (now : Int32) (hB : 0 ≤ (s 61).toInt ∧ (s 61).toInt ≤ 400) (hT : hTp r) : kMet l D cI cZ cB cO cR cJ Hb K lv ad ce0 yX2_readFrom wsX2_readFrom 6 130 [.ref (ad 102), .ref (ad 101), .int now] s r (some (.int ((rdZ now s r).1))) ((rdZ now s r).2) r := by
  refine Met.ofW (cc := cX2_readFrom) (maxL := 4) (ret := (some .boolean)) (by decide) rfl ?_
  intro p0 e0 s0 m0 args below meth c0 s₁ B hml hv
  obtain ⟨rfl, hG, hK, hE⟩ := hv
  have hx := B.exec
  have hb := B.bytes
  have hr := B.returns
  have hts := atoms_spec (ws := wsX2_readFrom) B.pre
  have hown : s0.vm.findClass RX2 = some m0.cls := findClass_of_methodNamed B.named
  have hlocks := B.notSynchronized
  have S : kX p0 m0 c0 cX2_readFrom 4 s0 _ wsX2_readFrom RX2 D (tyL cI cZ cB cO cR cJ) Hb K := ⟨⟨hx, hb, hml, hown, hts⟩, hK, hE⟩
  have hL : gL Hb [] := gL.nil
  have hH := hG.2.2.2.2
  have hl := lv_entry ([.ref (ad 102), .ref (ad 101), .int now]) (n := 4) (Nat.le_of_ble_eq_true rfl)
  rw [lg_entry_eq]
  generalize (lg_sl ([.ref (ad 102), .ref (ad 101), .int now]) ++ List.replicate (4 - (lg_sl ([.ref (ad 102), .ref (ad 101), .int now])).length) Slot.unset).toArray = ls at hl ⊢
  have hl : lv_has ls 4 [(0, .ref (ad 102)), (1, .ref (ad 101)), (2, .int now)] := hl
  refine lv_aload_n hx hb dX2_readFrom_0 rfl (lv_at hl 0 rfl) ?_
  refine k_callV (n := 0) (As := []) (rest := []) (st1 := []) (k := 102) (ci := 3) S hG hL (hlv.f (by decide) (by decide)) rfl rfl (c_X2_forget s r hlv   ) gX2_readFrom_X2_forget rfl ⟨rfl, rfl⟩ (by decide +kernel) ⟨Nat.le_of_ble_eq_true rfl, Nat.le_of_ble_eq_true rfl⟩ rfl hl.1 rfl (Nat.le_of_ble_eq_true rfl) dX2_readFrom_1 ⟨Nat.zero_le _, Nat.zero_le _⟩ (rfl) (fun H locs hG hL => ?_)
  refine lv_aload_n hx hb dX2_readFrom_4 rfl (lv_at hl 1 rfl) ?_
  refine k_callV (n := 0) (As := []) (rest := []) (st1 := []) (k := 101) (ci := 8) S hG hL (hlv.f (by decide) (by decide)) rfl rfl (c_X7_rewind (upd (upd (upd (upd (upd (upd s 104 (-1)) 105 (-1)) 106 0) 107 (-1)) 108 0) 109 0) r hlv   ) gX2_readFrom_X7_rewind rfl ⟨rfl, rfl⟩ (by decide +kernel) ⟨Nat.le_of_ble_eq_true rfl, Nat.le_of_ble_eq_true rfl⟩ rfl hl.1 rfl (Nat.le_of_ble_eq_true rfl) dX2_readFrom_5 ⟨Nat.zero_le _, Nat.zero_le _⟩ (rfl) (fun H locs hG hL => ?_)
  refine lv_iconst (v := 0) hx hb dX2_readFrom_8 (by decide) ?_
  refine lv_istore_n (lv' := [(3, .int 0), (0, .ref (ad 102)), (1, .ref (ad 101)), (2, .int now)]) hx hb dX2_readFrom_9 rfl hl (by decide) rfl (fun ls hl => ?_)
  have LP : ∀ (n : Nat) (i : Nat) (x : Int32) (sv : Nat → Int32) (ex : x = nI i) (hi : i ≤ 5) (hn : 6 ≤ i + n) (hR : tR sv) (hF : rdG now r (5 - i) sv = rdZ now s r), ∀ (H : Heap) (locs : List Loc), gW D Hb lv ad (kJ ce0 ad K.2.2.1 cI cB cO cR sv r) H → gL Hb locs → ∀ (ls : Array Slot), lv_has ls 4 [(0, .ref (ad 102)), (1, .ref (ad 101)), (2, .int now), (3, .int x)] → W p0 l e0 (headSpec wsX2_readFrom { frames := 6, cells := 0, slots := 0, locals := 130 }).room s0 m0 ([.ref (ad 102), .ref (ad 101), .int now] : List Value).toArray below meth c0 H locs 0 0 (MQ below (gQ D Hb lv ad (some (.int ((rdZ now s r).1))) (kJ ce0 ad K.2.2.1 cI cB cO cR ((rdZ now s r).2) r)) ([.ref (ad 102), .ref (ad 101), .int now] : List Value).toArray s0 0 0 (gA Hb)) (F0 m0 10 ls []) := by
    intro n
    induction n with
    | zero => intro i x sv ex hi hn hR hF; exact absurd hn (by omega)
    | succ n ih =>
      intro i x sv ex hi hn hR hF H locs hG hL ls hl
      refine lv_iload_n hx hb dX2_readFrom_10 rfl (lv_at hl 3 rfl) ?_
      refine lv_iconst (v := 5) hx hb dX2_readFrom_11 (by decide) ?_
      refine lv_icmp_ge (tgt := 70) hx hb dX2_readFrom_12 (by decide) (fun c12 => ?_) (fun c12 => ?_)
      ·
        have hE : i = 5 := by { have q := (nle (by omega) (by omega)).mp (ex ▸ c12 : nI 5 ≤ nI i); omega }
        refine lv_aload_n hx hb dX2_readFrom_70 rfl (lv_at hl 1 rfl) ?_
        refine k_callV (n := 0) (As := []) (rest := []) (st1 := []) (k := 101) (ci := 8) S hG hL (hlv.f (by decide) (by decide)) rfl rfl (c_X7_advance sv r hlv   (hR) (hT)) gX2_readFrom_X7_advance rfl ⟨rfl, rfl⟩ (by decide +kernel) ⟨Nat.le_of_ble_eq_true rfl, Nat.le_of_ble_eq_true rfl⟩ rfl hl.1 rfl (Nat.le_of_ble_eq_true rfl) dX2_readFrom_71 ⟨Nat.zero_le _, Nat.zero_le _⟩ (rfl) (fun H locs hG hL => ?_)
        refine lv_iconst (v := 0) hx hb dX2_readFrom_74 (by decide) ?_
        exact g_zret S.1 hr hlocks (by decide) hG hL (congrArg (fun z => some (Value.int z)) (by rw [← hF, hE]; rfl)) (congr (congrArg (kJ ce0 ad K.2.2.1 cI cB cO cR) (by rw [← hF, hE]; rfl)) (by rfl)) dX2_readFrom_75
      ·
        have hlt : i < 5 := by { have q := (not_congr (nle (by omega) (by omega))).mp (ex ▸ c12 : ¬ nI 5 ≤ nI i); omega }
        refine lv_aload_n hx hb dX2_readFrom_15 rfl (lv_at hl 1 rfl) ?_
        refine k_callV (n := 0) (As := []) (rest := []) (st1 := []) (k := 101) (ci := 8) S hG hL (hlv.f (by decide) (by decide)) rfl rfl (c_X7_advance sv r hlv   (hR) (hT)) gX2_readFrom_X7_advance rfl ⟨rfl, rfl⟩ (by decide +kernel) ⟨Nat.le_of_ble_eq_true rfl, Nat.le_of_ble_eq_true rfl⟩ rfl hl.1 rfl (Nat.le_of_ble_eq_true rfl) dX2_readFrom_16 ⟨Nat.zero_le _, Nat.zero_le _⟩ (rfl) (fun H locs hG hL => ?_)
        refine lv_aload_n hx hb dX2_readFrom_19 rfl (lv_at hl 0 rfl) ?_
        refine lv_aload_n hx hb dX2_readFrom_20 rfl (lv_at hl 1 rfl) ?_
        refine lv_iload_n hx hb dX2_readFrom_21 rfl (lv_at hl 2 rfl) ?_
        refine k_callV (n := 2) (As := [.ref (ad 101), .int now]) (rest := []) (st1 := .int ((rdB now (adS sv r) r).1) :: []) (k := 102) (ci := 3) S hG hL (hlv.f (by decide) (by decide)) rfl rfl (c_X2_readFact (adS sv r) r hlv   now (ad_W hR) (hT)) gX2_readFrom_X2_readFact rfl ⟨rfl, rfl⟩ (by decide +kernel) ⟨Nat.le_of_ble_eq_true rfl, Nat.le_of_ble_eq_true rfl⟩ rfl hl.1 rfl (Nat.le_of_ble_eq_true rfl) dX2_readFrom_22 ⟨Nat.zero_le _, Nat.zero_le _⟩ (rfl) (fun H locs hG hL => ?_)
        refine lv_if_ne (tgt := 30) hx hb dX2_readFrom_25 (by decide) (fun c25 => ?_) (fun c25 => ?_)
        ·
          refine lv_aload_n hx hb dX2_readFrom_30 rfl (lv_at hl 1 rfl) ?_
          refine k_callV (n := 0) (As := []) (rest := []) (st1 := []) (k := 101) (ci := 8) S hG hL (hlv.f (by decide) (by decide)) rfl rfl (c_X7_advance ((rdB now (adS sv r) r).2) r hlv   (rdB_R (ad_R hR)) (hT)) gX2_readFrom_X7_advance rfl ⟨rfl, rfl⟩ (by decide +kernel) ⟨Nat.le_of_ble_eq_true rfl, Nat.le_of_ble_eq_true rfl⟩ rfl hl.1 rfl (Nat.le_of_ble_eq_true rfl) dX2_readFrom_31 ⟨Nat.zero_le _, Nat.zero_le _⟩ (rfl) (fun H locs hG hL => ?_)
          refine lv_aload_n hx hb dX2_readFrom_34 rfl (lv_at hl 1 rfl) ?_
          refine lv_bipush (v := 44) hx hb dX2_readFrom_35 (by decide) ?_
          refine k_callV (n := 1) (As := [.int 44]) (rest := []) (st1 := .int (kSg 44 (adS ((rdB now (adS sv r) r).2) r) r) :: []) (k := 101) (ci := 8) S hG hL (hlv.f (by decide) (by decide)) rfl rfl (c_X7_isSign (adS ((rdB now (adS sv r) r).2) r) r hlv  44 (ad_W (rdB_R (ad_R hR)))) gX2_readFrom_X7_isSign rfl ⟨rfl, rfl⟩ (by decide +kernel) ⟨Nat.le_of_ble_eq_true rfl, Nat.le_of_ble_eq_true rfl⟩ rfl hl.1 rfl (Nat.le_of_ble_eq_true rfl) dX2_readFrom_37 ⟨Nat.zero_le _, Nat.zero_le _⟩ (rfl) (fun H locs hG hL => ?_)
          refine lv_if_ne (tgt := 64) hx hb dX2_readFrom_40 (by decide) (fun c40 => ?_) (fun c40 => ?_)
          ·
            refine lv_iinc (v := x + 1) (lv' := [(3, .int (x + 1)), (0, .ref (ad 102)), (1, .ref (ad 101)), (2, .int now)]) hx hb dX2_readFrom_64 hl (k := 3) rfl (by rfl) (by decide) rfl (fun ls hl => ?_)
            refine lv_goto (tgt := 10) hx hb dX2_readFrom_67 (by decide) ?_
            exact ih  (i + 1) (x + 1) (adS ((rdB now (adS sv r) r).2) r) (by rw [ex]; exact nI_1 i) (by omega) (by omega) (ad_R (rdB_R (ad_R hR))) (by rw [← hF, show 5 - i = (5 - (i + 1)) + 1 by omega]; simp only [rdG, eq_false c12, eq_false c25, eq_false c40, if_true, if_false]) _ _ hG hL _ (lv_sub hl [1, 2, 3, 0] rfl)
          ·
            refine lv_aload_n hx hb dX2_readFrom_43 rfl (lv_at hl 1 rfl) ?_
            refine k_callV (n := 0) (As := []) (rest := []) (st1 := .int (kAe (adS ((rdB now (adS sv r) r).2) r)) :: []) (k := 101) (ci := 8) S hG hL (hlv.f (by decide) (by decide)) rfl rfl (c_X7_isAtEnd (adS ((rdB now (adS sv r) r).2) r) r hlv   ) gX2_readFrom_X7_isAtEnd rfl ⟨rfl, rfl⟩ (by decide +kernel) ⟨Nat.le_of_ble_eq_true rfl, Nat.le_of_ble_eq_true rfl⟩ rfl hl.1 rfl (Nat.le_of_ble_eq_true rfl) dX2_readFrom_44 ⟨Nat.zero_le _, Nat.zero_le _⟩ (rfl) (fun H locs hG hL => ?_)
            refine lv_if_eq (tgt := 62) hx hb dX2_readFrom_47 (by decide) (fun c47 => ?_) (fun c47 => ?_)
            ·
              refine lv_iconst (v := 0) hx hb dX2_readFrom_62 (by decide) ?_
              exact g_zret S.1 hr hlocks (by decide) hG hL (congrArg (fun z => some (Value.int z)) (by rw [← hF, show 5 - i = (5 - (i + 1)) + 1 by omega]; simp only [rdG, eq_false c12, eq_false c25, eq_true c40, eq_true c47, if_true, if_false])) (congr (congrArg (kJ ce0 ad K.2.2.1 cI cB cO cR) (by rw [← hF, show 5 - i = (5 - (i + 1)) + 1 by omega]; simp only [rdG, eq_false c12, eq_false c25, eq_true c40, eq_true c47, if_true, if_false])) (by rfl)) dX2_readFrom_63
            ·
              refine lv_aload_n hx hb dX2_readFrom_50 rfl (lv_at hl 0 rfl) ?_
              refine k_gi (C := RX2) (T := TX2) (N := 6) (ci := 3) (v := (adS ((rdB now (adS sv r) r).2) r) 104) S hG (fun w h => List.mem_cons_of_mem _ (List.mem_append_left _ (List.mem_append_right _ h))) 102 (hlv.f (by decide) (by decide)) rfl rfl 0 (by decide) rfl (hts (.fieldLink RX2 34 "SwarmLine$Facts" "x" "I") (by decide +kernel)) rfl (rfl) dX2_readFrom_51 ?_
              refine lv_iconst (v := (-1)) hx hb dX2_readFrom_54 (by decide) ?_
              refine lv_icmp_eq (tgt := 62) hx hb dX2_readFrom_55 (by decide) (fun c55 => ?_) (fun c55 => ?_)
              ·
                refine lv_iconst (v := 0) hx hb dX2_readFrom_62 (by decide) ?_
                exact g_zret S.1 hr hlocks (by decide) hG hL (congrArg (fun z => some (Value.int z)) (by rw [← hF, show 5 - i = (5 - (i + 1)) + 1 by omega]; simp only [rdG, eq_false c12, eq_false c25, eq_true c40, eq_false c47, eq_true c55, if_true, if_false])) (congr (congrArg (kJ ce0 ad K.2.2.1 cI cB cO cR) (by rw [← hF, show 5 - i = (5 - (i + 1)) + 1 by omega]; simp only [rdG, eq_false c12, eq_false c25, eq_true c40, eq_false c47, eq_true c55, if_true, if_false])) (by rfl)) dX2_readFrom_63
              ·
                refine lv_iconst (v := 1) hx hb dX2_readFrom_58 (by decide) ?_
                refine lv_goto (tgt := 63) hx hb dX2_readFrom_59 (by decide) ?_
                exact g_zret S.1 hr hlocks (by decide) hG hL (congrArg (fun z => some (Value.int z)) (by rw [← hF, show 5 - i = (5 - (i + 1)) + 1 by omega]; simp only [rdG, eq_false c12, eq_false c25, eq_true c40, eq_false c47, eq_false c55, if_true, if_false])) (congr (congrArg (kJ ce0 ad K.2.2.1 cI cB cO cR) (by rw [← hF, show 5 - i = (5 - (i + 1)) + 1 by omega]; simp only [rdG, eq_false c12, eq_false c25, eq_true c40, eq_false c47, eq_false c55, if_true, if_false])) (by rfl)) dX2_readFrom_63
        ·
          refine lv_iconst (v := 0) hx hb dX2_readFrom_28 (by decide) ?_
          exact g_zret S.1 hr hlocks (by decide) hG hL (congrArg (fun z => some (Value.int z)) (by rw [← hF, show 5 - i = (5 - (i + 1)) + 1 by omega]; simp only [rdG, eq_false c12, eq_true c25, if_true, if_false])) (congr (congrArg (kJ ce0 ad K.2.2.1 cI cB cO cR) (by rw [← hF, show 5 - i = (5 - (i + 1)) + 1 by omega]; simp only [rdG, eq_false c12, eq_true c25, if_true, if_false])) (by rfl)) dX2_readFrom_29
  exact LP 6 0 0 (upd (upd (upd (upd (upd (upd (upd s 104 (-1)) 105 (-1)) 106 0) 107 (-1)) 108 0) 109 0) 102 0) (rfl) (by omega) (by omega) (⟨hB.1, hB.2, by decide, hB.1⟩) (rfl) _ _ hG hL _ (lv_sub hl [1, 2, 3, 0] rfl)

set_option maxHeartbeats 4000000 in
set_option maxRecDepth 100000 in
theorem c_X9_origin {l : Launch} {D : va_G} {cI cZ cB cO cR cJ : ClassId} {Hb : Heap} {K : kTx} {lv : Nat → Prop} {ad : Nat → Nat} {ce0 : Nat → va_E} (hst : l.stackTraces = false) (s : Nat → Int32) (r : Nat → Nat → Int32) (hlv : kL lv s) (k : Int32) (hbs : (s 14).toInt ≤ 60) (h0 : 0 ≤ (s 6).toInt) (h1 : (s 6).toInt ≤ 60) (hb3 : (s 39).toInt ≤ 60) (hsw : ∀ j, j < (s 14).toNatClampNeg → r 15 j = 1 → 0 ≤ (r 25 j).toInt ∧ (r 25 j).toInt < (s 39).toInt) : xMet l D cI cZ cB cO cR cJ Hb K lv ad ce0 yX9_origin wsX9_origin 7 113 2 [.ref (ad 100), .int k] s r (xOg k s r) (some (.int (koV k s r))) s r s r := by
  refine vx_ofW (cc := cX9_origin) (maxL := 6) (ret := (some .int)) (by decide) rfl ?_
  intro p0 e0 s0 m0 args below meth c0 s₁ B hml hout hv
  obtain ⟨rfl, hG, hK, hE⟩ := hv
  have hx := B.exec
  have hb := B.bytes
  have hr := B.returns
  have hts := atoms_spec (ws := wsX9_origin) B.pre
  have hown : s0.vm.findClass RX9 = some m0.cls := findClass_of_methodNamed B.named
  have hlocks := B.notSynchronized
  have S : kX p0 m0 c0 cX9_origin 6 s0 _ wsX9_origin RX9 D (tyL cI cZ cB cO cR cJ) Hb K := ⟨⟨hx, hb, hml, hown, hts⟩, hK, hE⟩
  have hL : gL Hb [] := gL.nil
  have hH := hG.2.2.2.2
  have hl := lv_entry ([.ref (ad 100), .int k]) (n := 6) (Nat.le_of_ble_eq_true rfl)
  rw [lg_entry_eq]
  generalize (lg_sl ([.ref (ad 100), .int k]) ++ List.replicate (6 - (lg_sl ([.ref (ad 100), .int k])).length) Slot.unset).toArray = ls at hl ⊢
  have hl : lv_has ls 6 [(0, .ref (ad 100)), (1, .int k)] := hl
  refine lv_aload_n hx hb dX9_origin_0 rfl (lv_at hl 0 rfl) ?_
  refine lv_iload_n hx hb dX9_origin_1 rfl (lv_at hl 1 rfl) ?_
  refine x_callV (n := 1) (As := [.int k]) (rest := []) (st1 := .ref (ad (2000 + Int32.toNatClampNeg k)) :: []) (k := 100) (ci := 10) S hG hL (hlv.f (by decide) (by decide)) rfl rfl (c_X9_swarmNumbered hst s r hlv  k (hbs)) gX9_origin_X9_swarmNumbered rfl ⟨rfl, rfl⟩ (by decide +kernel) ⟨Nat.le_of_ble_eq_true rfl, Nat.le_of_ble_eq_true rfl⟩ rfl hl.1 rfl (Nat.le_of_ble_eq_true rfl) dX9_origin_2 ⟨Nat.le_of_ble_eq_true rfl, Nat.le_of_ble_eq_true rfl⟩ hout hlocks (fun E9 h9 => ⟨by simp only [xNm, xOg] at h9 ⊢; split at h9 <;> simp_all, rfl⟩) ⟨Nat.le_of_ble_eq_true rfl, Nat.le_of_ble_eq_true rfl⟩ (rfl) (fun ht2 H locs hG hL => ?_)
  refine lv_astore_n (lv' := [(2, .ref (ad (2000 + Int32.toNatClampNeg k))), (0, .ref (ad 100)), (1, .int k)]) hx hb dX9_origin_5 rfl hl (by decide) rfl (fun ls hl => ?_)
  refine lv_aload_n hx hb dX9_origin_6 rfl (lv_at hl 0 rfl) ?_
  refine k_giN (C := RX6) (T := TX6) (N := 11) (ci := 7) (v := r 15 (Int32.toNatClampNeg k)) S hG (fun w h => List.mem_cons_of_mem _ (List.mem_append_left _ (List.mem_append_left _ (List.mem_append_left _ (List.mem_append_left _ (List.mem_append_left _ (List.mem_append_left _ (List.mem_append_right _ h)))))))) (2000 + Int32.toNatClampNeg k) (hlv.sw (xNm_lt ht2)) (kJ_sw (xNm_9 ht2 hbs)) rfl 7 (by decide) rfl (by decide +kernel) rfl (rfl) dX9_origin_7 ?_
  refine lv_iconst (v := 1) hx hb dX9_origin_10 (by decide) ?_
  refine lv_icmp_eq (tgt := 25) hx hb dX9_origin_11 (by decide) (fun c11 => ?_) (fun c11 => ?_)
  ·
    refine lv_aload_n hx hb dX9_origin_25 rfl (lv_at hl 1 rfl) ?_
    refine lv_aload_n hx hb dX9_origin_26 rfl (lv_at hl 0 rfl) ?_
    refine k_giN (C := RX6) (T := TX6) (N := 11) (ci := 7) (v := r 25 (Int32.toNatClampNeg k)) S hG (fun w h => List.mem_cons_of_mem _ (List.mem_append_left _ (List.mem_append_left _ (List.mem_append_left _ (List.mem_append_left _ (List.mem_append_left _ (List.mem_append_left _ (List.mem_append_right _ h)))))))) (2000 + Int32.toNatClampNeg k) (hlv.sw (xNm_lt ht2)) (kJ_sw (xNm_9 ht2 hbs)) rfl 9 (by decide) rfl (by decide +kernel) rfl (rfl) dX9_origin_27 ?_
    refine k_callV (n := 1) (As := [.int (r 25 (Int32.toNatClampNeg k))]) (rest := []) (st1 := .ref (ad (4000 + Int32.toNatClampNeg (r 25 (Int32.toNatClampNeg k)))) :: []) (k := 100) (ci := 10) S hG hL (hlv.f (by decide) (by decide)) rfl rfl (c_X9_caseNumbered_ok s r hlv  (r 25 (Int32.toNatClampNeg k)) ((hsw _ (xNm_lt ht2) c11).1) ((hsw _ (xNm_lt ht2) c11).2) (hb3)) gX9_origin_X9_caseNumbered rfl ⟨rfl, rfl⟩ (by decide +kernel) ⟨Nat.le_of_ble_eq_true rfl, Nat.le_of_ble_eq_true rfl⟩ rfl hl.1 rfl (Nat.le_of_ble_eq_true rfl) dX9_origin_30 ⟨Nat.le_of_ble_eq_true rfl, Nat.le_of_ble_eq_true rfl⟩ (rfl) (fun H locs hG hL => ?_)
    refine k_giN (C := RX1) (T := TX1) (N := 11) (ci := 2) (v := r 47 (Int32.toNatClampNeg (r 25 (Int32.toNatClampNeg k)))) S hG (fun w h => List.mem_cons_of_mem _ (List.mem_append_left _ (List.mem_append_left _ (List.mem_append_left _ (List.mem_append_left _ (List.mem_append_left _ (List.mem_append_right _ h))))))) (4000 + Int32.toNatClampNeg (r 25 (Int32.toNatClampNeg k))) (hlv.ca (ix_lt (hsw _ (xNm_lt ht2) c11).1 (hsw _ (xNm_lt ht2) c11).2)) (kJ_ca (ix_le (hsw _ (xNm_lt ht2) c11).1 (by have q := (hsw _ (xNm_lt ht2) c11).2; omega))) rfl 6 (by decide) rfl (by decide +kernel) rfl (rfl) dX9_origin_33 ?_
    refine lv_istore_n (lv' := [(3, .int (r 47 (Int32.toNatClampNeg (r 25 (Int32.toNatClampNeg k))))), (2, .ref (ad (2000 + Int32.toNatClampNeg k))), (0, .ref (ad 100)), (1, .int k)]) hx hb dX9_origin_36 rfl hl (by decide) rfl (fun ls hl => ?_)
    refine lv_iconst (v := (-1)) hx hb dX9_origin_37 (by decide) ?_
    refine lv_istore (lv' := [(4, .int (-1)), (3, .int (r 47 (Int32.toNatClampNeg (r 25 (Int32.toNatClampNeg k))))), (2, .ref (ad (2000 + Int32.toNatClampNeg k))), (0, .ref (ad 100)), (1, .int k)]) hx hb dX9_origin_38 hl (by decide) rfl (fun ls hl => ?_)
    refine lv_iconst (v := 0) hx hb dX9_origin_40 (by decide) ?_
    refine lv_istore (lv' := [(5, .int 0), (4, .int (-1)), (3, .int (r 47 (Int32.toNatClampNeg (r 25 (Int32.toNatClampNeg k))))), (2, .ref (ad (2000 + Int32.toNatClampNeg k))), (0, .ref (ad 100)), (1, .int k)]) hx hb dX9_origin_41 hl (by decide) rfl (fun ls hl => ?_)
    have LP : ∀ (n : Nat) (i : Nat) (x : Int32) (f : Int32) (ex : x = nI i) (hi : i ≤ (s 6).toNatClampNeg) (hn : (s 6).toNatClampNeg + 1 ≤ i + n) (hF : koF (Int32.toNatClampNeg k) (r 47 (Int32.toNatClampNeg (r 25 (Int32.toNatClampNeg k)))) r ((s 6).toNatClampNeg - i) i f = koV k s r), ∀ (H : Heap) (locs : List Loc), gW D Hb lv ad (kJ ce0 ad K.2.2.1 cI cB cO cR s r) H → gL Hb locs → ∀ (ls : Array Slot), lv_has ls 6 [(0, .ref (ad 100)), (2, .ref (ad (2000 + Int32.toNatClampNeg k))), (3, .int (r 47 (Int32.toNatClampNeg (r 25 (Int32.toNatClampNeg k))))), (4, .int f), (5, .int x)] → W p0 l e0 (headSpec wsX9_origin { frames := 7, cells := 2, slots := 12, locals := 113 }).room s0 m0 ([.ref (ad 100), .int k] : List Value).toArray below meth c0 H locs (0 + 1) (0 + 6 * 1) (vx_MQ below (xQ D Hb lv ad (xOg k s r) (some (.int (koV k s r))) (kJ ce0 ad K.2.2.1 cI cB cO cR s r)) (xX D Hb lv ad (xOg k s r) (kJ ce0 ad K.2.2.1 cI cB cO cR s r)) ([.ref (ad 100), .int k] : List Value).toArray s0 2 12 (gA Hb)) (F0 m0 43 ls []) := by
      intro n
      induction n with
      | zero => intro i x f ex hi hn hF; exact absurd hn (by omega)
      | succ n ih =>
        intro i x f ex hi hn hF H locs hG hL ls hl
        have hbd : (s 6).toNatClampNeg ≤ 60 := t_ixl h0 h1; have hii : Int32.toNatClampNeg x = i := by { rw [ex]; exact ix_nI (by omega) }
        refine lv_iload hx hb dX9_origin_43 (lv_at hl 4 rfl) ?_
        refine lv_aload_n hx hb dX9_origin_45 rfl (lv_at hl 0 rfl) ?_
        refine k_ga (C := RX9) (T := TX9) (N := 14) (ci := 10) (v := .ref (ad 105)) S hG (fun w h => List.mem_cons_of_mem _ (List.mem_append_left _ (List.mem_append_left _ (List.mem_append_left _ (List.mem_append_left _ (List.mem_append_right _ h)))))) 100 (hlv.f (by decide) (by decide)) rfl rfl 4 (by decide) rfl (hts (.fieldLink RX9 40 "SwarmLine" "hives" "Ljava/util/ArrayList;") (by decide +kernel)) rfl dX9_origin_46 ?_
        refine k_callV (n := 0) (As := []) (rest := [.int x]) (st1 := .int (s 6) :: [.int x]) (k := 105) (ci := 0) S hG hL (hlv.f (by decide) (by decide)) rfl rfl (c_size0 s r hlv   ) gX9_origin_Jx4a65c_size_8abf5 rfl ⟨rfl, rfl⟩ (by decide +kernel) ⟨Nat.le_of_ble_eq_true rfl, Nat.le_of_ble_eq_true rfl⟩ rfl hl.1 rfl (Nat.le_of_ble_eq_true rfl) dX9_origin_49 ⟨Nat.le_of_ble_eq_true rfl, Nat.le_of_ble_eq_true rfl⟩ (rfl) (fun H locs hG hL => ?_)
        refine lv_icmp_ge (tgt := 93) hx hb dX9_origin_52 (by decide) (fun c52 => ?_) (fun c52 => ?_)
        ·
          have hEq := cl_ge h0 hi (ex ▸ c52)
          refine lv_iload hx hb dX9_origin_93 (lv_at hl 3 rfl) ?_
          exact x_iret S.1 hr hlocks hG hL (by simp only [xOg, eq_false (xNm_n ht2), eq_true c11, eq_true c52, if_true, if_false]) (congrArg (fun z => some (Value.int z)) (by rw [← hF, hEq, Nat.sub_self]; rfl)) (congr (congrArg (kJ ce0 ad K.2.2.1 cI cB cO cR) (by rfl)) (by rfl)) dX9_origin_95 (Nat.le_of_ble_eq_true rfl) (Nat.le_of_ble_eq_true rfl)
        ·
          have hlt := cl_lt h0 hi (ex ▸ c52)
          refine lv_aload_n hx hb dX9_origin_55 rfl (lv_at hl 0 rfl) ?_
          refine k_ga (C := RX9) (T := TX9) (N := 14) (ci := 10) (v := .ref (ad 105)) S hG (fun w h => List.mem_cons_of_mem _ (List.mem_append_left _ (List.mem_append_left _ (List.mem_append_left _ (List.mem_append_left _ (List.mem_append_right _ h)))))) 100 (hlv.f (by decide) (by decide)) rfl rfl 4 (by decide) rfl (hts (.fieldLink RX9 40 "SwarmLine" "hives" "Ljava/util/ArrayList;") (by decide +kernel)) rfl dX9_origin_56 ?_
          refine lv_iload hx hb dX9_origin_59 (lv_at hl 4 rfl) ?_
          refine k_callV (n := 1) (As := [.int x]) (rest := []) (st1 := .ref (ad (1000 + i)) :: []) (k := 105) (ci := 0) S hG hL (hlv.f (by decide) (by decide)) rfl rfl (c_get0 s r hlv  x (g_x0 ex (by omega)) (g_x1 ex hlt (by omega) h0) (h1)) gX9_origin_Jx4a65c_get_915e3 rfl ⟨rfl, rfl⟩ (by decide +kernel) ⟨Nat.le_of_ble_eq_true rfl, Nat.le_of_ble_eq_true rfl⟩ rfl hl.1 rfl (Nat.le_of_ble_eq_true rfl) dX9_origin_61 ⟨Nat.le_of_ble_eq_true rfl, Nat.le_of_ble_eq_true rfl⟩ (by rw [hii]; rfl) (fun H locs hG hL => ?_)
          refine k_cast (C := RX3) (T := TX3) (N := 7) (ci := 4) S hG (1000 + i) (hlv.hv hlt) (kJ_hv (by omega)) rfl (hts (.classLink RX9 151 "SwarmLine$Hive") (by decide +kernel)) dX9_origin_64 ?_
          refine lv_aload_n hx hb dX9_origin_67 rfl (lv_at hl 1 rfl) ?_
          refine lv_iload_n hx hb dX9_origin_68 rfl (lv_at hl 2 rfl) ?_
          refine k_callV (n := 2) (As := [.ref (ad (2000 + Int32.toNatClampNeg k)), .int (r 47 (Int32.toNatClampNeg (r 25 (Int32.toNatClampNeg k))))]) (rest := []) (st1 := .int (kAw i (Int32.toNatClampNeg k) (r 47 (Int32.toNatClampNeg (r 25 (Int32.toNatClampNeg k)))) r) :: []) (k := 1000 + i) (ci := 4) S hG hL (hlv.hv hlt) (kJ_hv (by omega)) rfl (c_X3_agreesWith s r hlv i hlt (by omega) (Int32.toNatClampNeg k) (xNm_lt ht2) (xNm_9 ht2 hbs) (r 47 (Int32.toNatClampNeg (r 25 (Int32.toNatClampNeg k)))) ) gX9_origin_X3_agreesWith rfl ⟨rfl, rfl⟩ (by decide +kernel) ⟨Nat.le_of_ble_eq_true rfl, Nat.le_of_ble_eq_true rfl⟩ rfl hl.1 rfl (Nat.le_of_ble_eq_true rfl) dX9_origin_69 ⟨Nat.le_of_ble_eq_true rfl, Nat.le_of_ble_eq_true rfl⟩ (rfl) (fun H locs hG hL => ?_)
          refine lv_if_eq (tgt := 87) hx hb dX9_origin_72 (by decide) (fun c72 => ?_) (fun c72 => ?_)
          ·
            refine lv_iinc (v := x + 1) (lv' := [(5, .int (x + 1)), (0, .ref (ad 100)), (2, .ref (ad (2000 + Int32.toNatClampNeg k))), (3, .int (r 47 (Int32.toNatClampNeg (r 25 (Int32.toNatClampNeg k))))), (4, .int f)]) hx hb dX9_origin_87 hl (k := 4) rfl (by rfl) (by decide) rfl (fun ls hl => ?_)
            refine lv_goto (tgt := 43) hx hb dX9_origin_90 (by decide) ?_
            exact ih  (i + 1) (x + 1) f (by rw [ex]; exact nI_1 i) (hlt) (by omega) (by rw [← hF, show (s 6).toNatClampNeg - i = ((s 6).toNatClampNeg - (i + 1)) + 1 by omega]; simp only [koF, ← ex, eq_true c11, eq_false c52, eq_true c72, ↓reduceIte]) _ _ hG hL _ (lv_sub hl [1, 2, 3, 4, 0] rfl)
          ·
            refine lv_iload hx hb dX9_origin_75 (lv_at hl 3 rfl) ?_
            refine lv_iconst (v := (-1)) hx hb dX9_origin_77 (by decide) ?_
            refine lv_icmp_eq (tgt := 83) hx hb dX9_origin_78 (by decide) (fun c78 => ?_) (fun c78 => ?_)
            ·
              refine lv_iload hx hb dX9_origin_83 (lv_at hl 4 rfl) ?_
              refine lv_istore (lv' := [(4, .int x), (0, .ref (ad 100)), (2, .ref (ad (2000 + Int32.toNatClampNeg k))), (3, .int (r 47 (Int32.toNatClampNeg (r 25 (Int32.toNatClampNeg k))))), (5, .int x)]) hx hb dX9_origin_85 hl (by decide) rfl (fun ls hl => ?_)
              refine lv_iinc (v := x + 1) (lv' := [(5, .int (x + 1)), (4, .int x), (0, .ref (ad 100)), (2, .ref (ad (2000 + Int32.toNatClampNeg k))), (3, .int (r 47 (Int32.toNatClampNeg (r 25 (Int32.toNatClampNeg k)))))]) hx hb dX9_origin_87 hl (k := 4) rfl (by rfl) (by decide) rfl (fun ls hl => ?_)
              refine lv_goto (tgt := 43) hx hb dX9_origin_90 (by decide) ?_
              exact ih  (i + 1) (x + 1) x (by rw [ex]; exact nI_1 i) (hlt) (by omega) (by rw [← hF, show (s 6).toNatClampNeg - i = ((s 6).toNatClampNeg - (i + 1)) + 1 by omega]; simp only [koF, ← ex, eq_true c11, eq_false c52, eq_false c72, eq_true c78, ↓reduceIte]) _ _ hG hL _ (lv_sub hl [2, 3, 4, 1, 0] rfl)
            ·
              refine lv_iconst (v := (-1)) hx hb dX9_origin_81 (by decide) ?_
              exact x_iret S.1 hr hlocks hG hL (by simp only [xOg, eq_false (xNm_n ht2), eq_true c11, eq_false c52, eq_false c72, eq_false c78, if_true, if_false]) (congrArg (fun z => some (Value.int z)) (by rw [← hF, show (s 6).toNatClampNeg - i = ((s 6).toNatClampNeg - (i + 1)) + 1 by omega]; simp only [koF, eq_true c11, eq_false c52, eq_false c72, eq_false c78, ↓reduceIte])) (congr (congrArg (kJ ce0 ad K.2.2.1 cI cB cO cR) (by rfl)) (by rfl)) dX9_origin_82 (Nat.le_of_ble_eq_true rfl) (Nat.le_of_ble_eq_true rfl)
    exact LP ((s 6).toNatClampNeg + 1) 0 0 (-1) (rfl) (Nat.zero_le _) (by omega) (rfl) _ _ hG hL _ (lv_sub hl [4, 3, 2, 1, 0] rfl)
  ·
    exact k_throwW (cls := "java/lang/IllegalStateException") (text := "nobody has the swarm") (i := 24) S hst hH hG hL (by decide +kernel) (hts (.classLink RX9 117 "java/lang/IllegalStateException") (by decide +kernel)) (hts (.initialized "java/lang/IllegalStateException") (by decide +kernel)) rfl (fun w h => List.mem_cons_of_mem _ (List.mem_append_left _ (List.mem_append_right _ h))) (by decide +kernel) (by decide +kernel) (by decide +kernel) hl.1 dX9_origin_14 dX9_origin_17 dX9_origin_18 dX9_origin_21 dX9_origin_24 hout (Nat.le_of_ble_eq_true rfl) (Nat.le_of_ble_eq_true rfl) (Nat.le_of_ble_eq_true rfl) (Nat.le_of_ble_eq_true rfl) hlocks (by simp only [xOg, eq_false (xNm_n ht2), eq_false c11, if_true, if_false]) (congr (congrArg (kJ ce0 ad K.2.2.1 cI cB cO cR) (by rfl)) (by rfl)) (Nat.le_of_ble_eq_true rfl) (Nat.le_of_ble_eq_true rfl)

set_option maxHeartbeats 4000000 in
set_option maxRecDepth 100000 in
theorem c_X9_most {l : Launch} {D : va_G} {cI cZ cB cO cR cJ : ClassId} {Hb : Heap} {K : kTx} {lv : Nat → Prop} {ad : Nat → Nat} {ce0 : Nat → va_E} (s : Nat → Int32) (r : Nat → Nat → Int32) (hlv : kL lv s)  (h0 : 0 ≤ (s 39).toInt) (h1 : (s 39).toInt ≤ 60) (hk0 : 0 ≤ (s 26).toInt) (hk1 : (s 26).toInt ≤ 12) (hs : ∀ j, j < (s 39).toNatClampNeg → ¬ r 46 j = -1 → 0 ≤ (r 46 j).toInt ∧ (r 46 j).toInt ≤ 743) (hd : ∀ i j, i < (s 26).toNatClampNeg → j < (s 39).toNatClampNeg → (kSt (r 27 i) (r 28 i) (r 42 j) (r 43 j)).toInt ≤ 19) : kMet l D cI cZ cB cO cR cJ Hb K lv ad ce0 yX9_most wsX9_most 5 120 [.ref (ad 100)] s r (some (.int (kmV s r))) s (kmR s r) := by
  refine Met.ofW (cc := cX9_most) (maxL := 3) (ret := (some .int)) (by decide) rfl ?_
  intro p0 e0 s0 m0 args below meth c0 s₁ B hml hv
  obtain ⟨rfl, hG, hK, hE⟩ := hv
  have hx := B.exec
  have hb := B.bytes
  have hr := B.returns
  have hts := atoms_spec (ws := wsX9_most) B.pre
  have hown : s0.vm.findClass RX9 = some m0.cls := findClass_of_methodNamed B.named
  have hlocks := B.notSynchronized
  have S : kX p0 m0 c0 cX9_most 3 s0 _ wsX9_most RX9 D (tyL cI cZ cB cO cR cJ) Hb K := ⟨⟨hx, hb, hml, hown, hts⟩, hK, hE⟩
  have hL : gL Hb [] := gL.nil
  have hH := hG.2.2.2.2
  have hl := lv_entry ([.ref (ad 100)]) (n := 3) (Nat.le_of_ble_eq_true rfl)
  rw [lg_entry_eq]
  generalize (lg_sl ([.ref (ad 100)]) ++ List.replicate (3 - (lg_sl ([.ref (ad 100)])).length) Slot.unset).toArray = ls at hl ⊢
  have hl : lv_has ls 3 [(0, .ref (ad 100))] := hl
  refine lv_iconst (v := 0) hx hb dX9_most_0 (by decide) ?_
  refine lv_istore_n (lv' := [(1, .int 0), (0, .ref (ad 100))]) hx hb dX9_most_1 rfl hl (by decide) rfl (fun ls hl => ?_)
  refine lv_iconst (v := 0) hx hb dX9_most_2 (by decide) ?_
  refine lv_istore_n (lv' := [(2, .int 0), (1, .int 0), (0, .ref (ad 100))]) hx hb dX9_most_3 rfl hl (by decide) rfl (fun ls hl => ?_)
  have LP : ∀ (n : Nat) (i : Nat) (x : Int32) (q : Nat) (y : Int32) (rv : Nat → Nat → Int32) (ex : x = nI i) (hi : i ≤ (s 39).toNatClampNeg) (hn : (s 39).toNatClampNeg + 1 ≤ i + n) (ey : y = nI q) (hq : q ≤ 8) (ho : o100 r rv) (hF : km1 s r ((s 39).toNatClampNeg - i) i q rv = km1 s r (s 39).toNatClampNeg 0 0 r), ∀ (H : Heap) (locs : List Loc), gW D Hb lv ad (kJ ce0 ad K.2.2.1 cI cB cO cR s rv) H → gL Hb locs → ∀ (ls : Array Slot), lv_has ls 3 [(0, .ref (ad 100)), (1, .int y), (2, .int x)] → W p0 l e0 (headSpec wsX9_most { frames := 5, cells := 0, slots := 0, locals := 120 }).room s0 m0 ([.ref (ad 100)] : List Value).toArray below meth c0 H locs 0 0 (MQ below (gQ D Hb lv ad (some (.int (kmV s r))) (kJ ce0 ad K.2.2.1 cI cB cO cR s (kmR s r))) ([.ref (ad 100)] : List Value).toArray s0 0 0 (gA Hb)) (F0 m0 4 ls []) := by
    intro n
    induction n with
    | zero => intro i x q y rv ex hi hn ey hq ho hF; exact absurd hn (by omega)
    | succ n ih =>
      intro i x q y rv ex hi hn ey hq ho hF H locs hG hL ls hl
      have hbd : (s 39).toNatClampNeg ≤ 60 := t_ixl h0 h1; have hii : Int32.toNatClampNeg x = i := by { rw [ex]; exact ix_nI (by omega) }
      refine lv_iload_n hx hb dX9_most_4 rfl (lv_at hl 2 rfl) ?_
      refine lv_aload_n hx hb dX9_most_5 rfl (lv_at hl 0 rfl) ?_
      refine k_ga (C := RX9) (T := TX9) (N := 14) (ci := 10) (v := .ref (ad 108)) S hG (fun w h => List.mem_cons_of_mem _ (List.mem_append_left _ (List.mem_append_left _ (List.mem_append_left _ (List.mem_append_left _ (List.mem_append_right _ h)))))) 100 (hlv.f (by decide) (by decide)) rfl rfl 7 (by decide) rfl (hts (.fieldLink RX9 50 "SwarmLine" "cases" "Ljava/util/ArrayList;") (by decide +kernel)) rfl dX9_most_6 ?_
      refine k_callV (n := 0) (As := []) (rest := [.int x]) (st1 := .int (s 39) :: [.int x]) (k := 108) (ci := 0) S hG hL (hlv.f (by decide) (by decide)) rfl rfl (c_size3 s rv hlv   ) gX9_most_Jx4a65c_size_8abf5 rfl ⟨rfl, rfl⟩ (by decide +kernel) ⟨Nat.le_of_ble_eq_true rfl, Nat.le_of_ble_eq_true rfl⟩ rfl hl.1 rfl (Nat.le_of_ble_eq_true rfl) dX9_most_9 ⟨Nat.zero_le _, Nat.zero_le _⟩ (rfl) (fun H locs hG hL => ?_)
      refine lv_icmp_ge (tgt := 68) hx hb dX9_most_12 (by decide) (fun c12 => ?_) (fun c12 => ?_)
      ·
        have hEq := cl_ge h0 hi (ex ▸ c12)
        refine lv_aload_n hx hb dX9_most_68 rfl (lv_at hl 0 rfl) ?_
        refine k_ga (C := RX9) (T := TX9) (N := 14) (ci := 10) (v := .ref (ad 109)) S hG (fun w h => List.mem_cons_of_mem _ (List.mem_append_left _ (List.mem_append_left _ (List.mem_append_left _ (List.mem_append_left _ (List.mem_append_right _ h)))))) 100 (hlv.f (by decide) (by decide)) rfl rfl 8 (by decide) rfl (hts (.fieldLink RX9 53 "SwarmLine" "reach" "[I") (by decide +kernel)) rfl dX9_most_69 ?_
        refine lv_iload_n hx hb dX9_most_72 rfl (lv_at hl 1 rfl) ?_
        refine k_callS (n := 2) (As := [.ref (ad 109), .int y]) (rest := []) (st1 := .int (gmO rv y (2 ^ (y).toNatClampNeg)) :: []) S hG hL (c_X9_greatestMatching s rv hlv   y (by rw [ey, nI_toInt (by omega)]; omega) (by rw [ey, nI_toInt (by omega)]; omega)) gX9_most_X9_greatestMatching rfl ⟨rfl, rfl⟩ (by decide +kernel) ⟨Nat.le_of_ble_eq_true rfl, Nat.le_of_ble_eq_true rfl⟩ rfl hl.1 rfl (Nat.le_of_ble_eq_true rfl) dX9_most_73 ⟨Nat.zero_le _, Nat.zero_le _⟩ (rfl) (fun H locs hG hL => ?_)
        exact g_iret S.1 hr hlocks hG hL (congrArg (fun z => some (Value.int z)) (by have hZ : km1 s r (s 39).toNatClampNeg 0 0 r = (q, rv) := (by { rw [← hF]; rw [hEq, Nat.sub_self]; rfl }); simp only [kmV, kmR, kmN, hZ, ← ey])) (congr (congrArg (kJ ce0 ad K.2.2.1 cI cB cO cR) (by rfl)) (by have hZ : km1 s r (s 39).toNatClampNeg 0 0 r = (q, rv) := (by { rw [← hF]; rw [hEq, Nat.sub_self]; rfl }); simp only [kmR, hZ])) dX9_most_76
      ·
        have hlt := cl_lt h0 hi (ex ▸ c12)
        refine lv_iload_n hx hb dX9_most_15 rfl (lv_at hl 1 rfl) ?_
        refine lv_bipush (v := 8) hx hb dX9_most_16 (by decide) ?_
        refine lv_icmp_ge (tgt := 68) hx hb dX9_most_18 (by decide) (fun c18 => ?_) (fun c18 => ?_)
        ·
          have hq9 : 8 ≤ q := (nle (by omega) (by omega)).mp (ey ▸ c18)
          refine lv_aload_n hx hb dX9_most_68 rfl (lv_at hl 0 rfl) ?_
          refine k_ga (C := RX9) (T := TX9) (N := 14) (ci := 10) (v := .ref (ad 109)) S hG (fun w h => List.mem_cons_of_mem _ (List.mem_append_left _ (List.mem_append_left _ (List.mem_append_left _ (List.mem_append_left _ (List.mem_append_right _ h)))))) 100 (hlv.f (by decide) (by decide)) rfl rfl 8 (by decide) rfl (hts (.fieldLink RX9 53 "SwarmLine" "reach" "[I") (by decide +kernel)) rfl dX9_most_69 ?_
          refine lv_iload_n hx hb dX9_most_72 rfl (lv_at hl 1 rfl) ?_
          refine k_callS (n := 2) (As := [.ref (ad 109), .int y]) (rest := []) (st1 := .int (gmO rv y (2 ^ (y).toNatClampNeg)) :: []) S hG hL (c_X9_greatestMatching s rv hlv   y (by rw [ey, nI_toInt (by omega)]; omega) (by rw [ey, nI_toInt (by omega)]; omega)) gX9_most_X9_greatestMatching rfl ⟨rfl, rfl⟩ (by decide +kernel) ⟨Nat.le_of_ble_eq_true rfl, Nat.le_of_ble_eq_true rfl⟩ rfl hl.1 rfl (Nat.le_of_ble_eq_true rfl) dX9_most_73 ⟨Nat.zero_le _, Nat.zero_le _⟩ (rfl) (fun H locs hG hL => ?_)
          exact g_iret S.1 hr hlocks hG hL (congrArg (fun z => some (Value.int z)) (by have hZ : km1 s r (s 39).toNatClampNeg 0 0 r = (q, rv) := (by { rw [← hF]; rw [show (s 39).toNatClampNeg - i = ((s 39).toNatClampNeg - (i + 1)) + 1 by omega]; simp only [km1, eq_true hq9, ↓reduceIte] }); simp only [kmV, kmR, kmN, hZ, ← ey])) (congr (congrArg (kJ ce0 ad K.2.2.1 cI cB cO cR) (by rfl)) (by have hZ : km1 s r (s 39).toNatClampNeg 0 0 r = (q, rv) := (by { rw [← hF]; rw [show (s 39).toNatClampNeg - i = ((s 39).toNatClampNeg - (i + 1)) + 1 by omega]; simp only [km1, eq_true hq9, ↓reduceIte] }); simp only [kmR, hZ])) dX9_most_76
        ·
          have hq8 : q < 8 := by { have z := (not_congr (nle (by omega) (by omega))).mp (ey ▸ c18 : ¬ nI 8 ≤ nI q); omega }
          refine lv_aload_n hx hb dX9_most_21 rfl (lv_at hl 0 rfl) ?_
          refine k_ga (C := RX9) (T := TX9) (N := 14) (ci := 10) (v := .ref (ad 108)) S hG (fun w h => List.mem_cons_of_mem _ (List.mem_append_left _ (List.mem_append_left _ (List.mem_append_left _ (List.mem_append_left _ (List.mem_append_right _ h)))))) 100 (hlv.f (by decide) (by decide)) rfl rfl 7 (by decide) rfl (hts (.fieldLink RX9 50 "SwarmLine" "cases" "Ljava/util/ArrayList;") (by decide +kernel)) rfl dX9_most_22 ?_
          refine lv_iload_n hx hb dX9_most_25 rfl (lv_at hl 2 rfl) ?_
          refine k_callV (n := 1) (As := [.int x]) (rest := []) (st1 := .ref (ad (4000 + i)) :: []) (k := 108) (ci := 0) S hG hL (hlv.f (by decide) (by decide)) rfl rfl (c_get3 s rv hlv  x (g_x0 ex (by omega)) (g_x1 ex hlt (by omega) h0) (h1)) gX9_most_Jx4a65c_get_915e3 rfl ⟨rfl, rfl⟩ (by decide +kernel) ⟨Nat.le_of_ble_eq_true rfl, Nat.le_of_ble_eq_true rfl⟩ rfl hl.1 rfl (Nat.le_of_ble_eq_true rfl) dX9_most_26 ⟨Nat.zero_le _, Nat.zero_le _⟩ (by rw [hii]; rfl) (fun H locs hG hL => ?_)
          refine k_cast (C := RX1) (T := TX1) (N := 11) (ci := 2) S hG (4000 + i) (hlv.ca hlt) (kJ_ca (by omega)) rfl (hts (.classLink RX9 209 "SwarmLine$Case") (by decide +kernel)) dX9_most_29 ?_
          refine k_giN (C := RX1) (T := TX1) (N := 11) (ci := 2) (v := rv 41 i) S hG (fun w h => List.mem_cons_of_mem _ (List.mem_append_left _ (List.mem_append_left _ (List.mem_append_left _ (List.mem_append_right _ h))))) (4000 + i) (hlv.ca hlt) (kJ_ca (by omega)) rfl 3 (by decide) rfl (by decide +kernel) rfl (rfl) dX9_most_32 ?_
          refine lv_if_ne (tgt := 62) hx hb dX9_most_35 (by decide) (fun c35 => ?_) (fun c35 => ?_)
          ·
            refine lv_iinc (v := x + 1) (lv' := [(2, .int (x + 1)), (0, .ref (ad 100)), (1, .int y)]) hx hb dX9_most_62 hl (k := 2) rfl (by rfl) (by decide) rfl (fun ls hl => ?_)
            refine lv_goto (tgt := 4) hx hb dX9_most_65 (by decide) ?_
            exact ih  (i + 1) (x + 1) q y rv (by rw [ex]; exact nI_1 i) (hlt) (by omega) (ey) (by omega) (ho) (by rw [← hF, show (s 39).toNatClampNeg - i = ((s 39).toNatClampNeg - (i + 1)) + 1 by omega]; simp only [km1, eq_false (show ¬ 8 ≤ q by omega), ← ho 41 (by decide), eq_false c12, eq_false c18, eq_false c35, ↓reduceIte]) _ _ hG hL _ (lv_sub hl [1, 2, 0] rfl)
          ·
            refine lv_aload_n hx hb dX9_most_38 rfl (lv_at hl 0 rfl) ?_
            refine k_ga (C := RX9) (T := TX9) (N := 14) (ci := 10) (v := .ref (ad 109)) S hG (fun w h => List.mem_cons_of_mem _ (List.mem_append_left _ (List.mem_append_left _ (List.mem_append_left _ (List.mem_append_left _ (List.mem_append_right _ h)))))) 100 (hlv.f (by decide) (by decide)) rfl rfl 8 (by decide) rfl (hts (.fieldLink RX9 53 "SwarmLine" "reach" "[I") (by decide +kernel)) rfl dX9_most_39 ?_
            refine lv_iload_n hx hb dX9_most_42 rfl (lv_at hl 1 rfl) ?_
            refine lv_aload_n hx hb dX9_most_43 rfl (lv_at hl 0 rfl) ?_
            refine lv_aload_n hx hb dX9_most_44 rfl (lv_at hl 0 rfl) ?_
            refine k_ga (C := RX9) (T := TX9) (N := 14) (ci := 10) (v := .ref (ad 108)) S hG (fun w h => List.mem_cons_of_mem _ (List.mem_append_left _ (List.mem_append_left _ (List.mem_append_left _ (List.mem_append_left _ (List.mem_append_right _ h)))))) 100 (hlv.f (by decide) (by decide)) rfl rfl 7 (by decide) rfl (hts (.fieldLink RX9 50 "SwarmLine" "cases" "Ljava/util/ArrayList;") (by decide +kernel)) rfl dX9_most_45 ?_
            refine lv_iload_n hx hb dX9_most_48 rfl (lv_at hl 2 rfl) ?_
            refine k_callV (n := 1) (As := [.int x]) (rest := [.ref (ad 100), .int y, .ref (ad 109)]) (st1 := .ref (ad (4000 + i)) :: [.ref (ad 100), .int y, .ref (ad 109)]) (k := 108) (ci := 0) S hG hL (hlv.f (by decide) (by decide)) rfl rfl (c_get3 s rv hlv  x (g_x0 ex (by omega)) (g_x1 ex hlt (by omega) h0) (h1)) gX9_most_Jx4a65c_get_915e3 rfl ⟨rfl, rfl⟩ (by decide +kernel) ⟨Nat.le_of_ble_eq_true rfl, Nat.le_of_ble_eq_true rfl⟩ rfl hl.1 rfl (Nat.le_of_ble_eq_true rfl) dX9_most_49 ⟨Nat.zero_le _, Nat.zero_le _⟩ (by rw [hii]; rfl) (fun H locs hG hL => ?_)
            refine k_cast (C := RX1) (T := TX1) (N := 11) (ci := 2) S hG (4000 + i) (hlv.ca hlt) (kJ_ca (by omega)) rfl (hts (.classLink RX9 209 "SwarmLine$Case") (by decide +kernel)) dX9_most_52 ?_
            refine k_callV (n := 1) (As := [.ref (ad (4000 + i))]) (rest := [.int y, .ref (ad 109)]) (st1 := .int (kwF i s rv (s 26).toNatClampNeg) :: [.int y, .ref (ad 109)]) (k := 100) (ci := 10) S hG hL (hlv.f (by decide) (by decide)) rfl rfl (c_X9_keepersWhoCouldGo s rv hlv  i hlt (by omega) (hk0) (hk1) (by rw [ho 46 (by decide)]; exact hs i hlt) (fun i2 hi2 => by rw [ho 27 (by decide), ho 28 (by decide), ho 42 (by decide), ho 43 (by decide)]; exact hd i2 i hi2 hlt)) gX9_most_X9_keepersWhoCouldGo rfl ⟨rfl, rfl⟩ (by decide +kernel) ⟨Nat.le_of_ble_eq_true rfl, Nat.le_of_ble_eq_true rfl⟩ rfl hl.1 rfl (Nat.le_of_ble_eq_true rfl) dX9_most_55 ⟨Nat.zero_le _, Nat.zero_le _⟩ (rfl) (fun H locs hG hL => ?_)
            refine k_ist (j := Int32.toNatClampNeg y) S hG hL 109 (hlv.f (by decide) (by decide)) rfl rfl (show vp_in y 8 from by rw [ey]; exact vp_in_i (by omega) (by omega)) (kw_109 _ _) dX9_most_58 (fun H locs hG hL => ?_)
            refine lv_iinc (v := y + 1) (lv' := [(1, .int (y + 1)), (0, .ref (ad 100)), (2, .int x)]) hx hb dX9_most_59 hl (k := 1) rfl (by rfl) (by decide) rfl (fun ls hl => ?_)
            refine lv_iinc (v := x + 1) (lv' := [(2, .int (x + 1)), (1, .int (y + 1)), (0, .ref (ad 100))]) hx hb dX9_most_62 hl (k := 2) rfl (by rfl) (by decide) rfl (fun ls hl => ?_)
            refine lv_goto (tgt := 4) hx hb dX9_most_65 (by decide) ?_
            exact ih  (i + 1) (x + 1) (q + 1) (y + 1) (up2 rv 100 (Int32.toNatClampNeg y) (kwF i s rv (s 26).toNatClampNeg)) (by rw [ex]; exact nI_1 i) (hlt) (by omega) (by rw [ey]; exact nI_1 q) (by omega) (o100_up ho _ _) (by rw [← hF, show (s 39).toNatClampNeg - i = ((s 39).toNatClampNeg - (i + 1)) + 1 by omega]; simp only [km1, eq_false (show ¬ 8 ≤ q by omega), ← ho 41 (by decide), eq_false c12, eq_false c18, eq_true c35, ↓reduceIte]; rw [kwF_o ho]) _ _ hG hL _ (lv_sub hl [2, 1, 0] rfl)
  exact LP ((s 39).toNatClampNeg + 1) 0 0 0 0 r (rfl) (Nat.zero_le _) (by omega) (rfl) (by decide) (fun _ _ => rfl) (rfl) _ _ hG hL _ (lv_sub hl [2, 1, 0] rfl)
