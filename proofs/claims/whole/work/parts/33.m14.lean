/-! the turns -/
theorem tOn_rlD (ln : Nat) : ∀ (n : Nat) (s : Nat → Int32) (r : Nat → Nat → Int32), tB s → tOn s (rlD ln n s r).2.1
  | 0, s, r, h => tOn.refl h
  | n + 1, s, r, h => by
    have q := tOn_S (r := r) h
    have q2 := tOn_sg (r := rl3 ln s r) q.2.1
    unfold rlD
    split
    · exact q
    · split
      · exact tOn_64 q _
      · split
        · exact q.trans q2
        · exact (q.trans q2).trans (tOn_rlD ln n _ _ q2.2.1)
theorem tOn_rlB {ln : Nat} {pl : Int32} {s : Nat → Int32} {r : Nat → Nat → Int32} (h : tB s) : tOn s (rlB ln pl s r).2.1 := by
  unfold rlB
  split
  · exact tOn_64 (tOn.refl h) _
  · unfold rlC
    split
    · rename_i q
      have q1 := tOn_comma h q (by decide)
      exact q1.1.trans (tOn_rlD ln 13 _ _ q1.1.2.1)
    · exact tOn_64 (tOn_sg h) _
theorem tOn_rlA {ln : Nat} {s : Nat → Int32} {r : Nat → Nat → Int32} (h : tB s) : tOn s (rlA ln s r).2.1 := by
  have q := tOn_2L (r := r) h
  unfold rlA
  split
  · split
    · exact tOn_64 (tOn_sg h) _
    · have q2 := tOn_sg (r := rl0 r) q.2.1
      have q3 := tOn_N (r := rl0 r) 0 15 q2.2.1
      unfold rlI
      split
      · exact q.trans (q2.trans q3)
      · exact (q.trans (q2.trans q3)).trans (tOn_rlB q3.2.1)
  · exact q.trans (tOn_rlB q.2.1)
def rtA (s : Nat → Int32) (r : Nat → Nat → Int32) : FX := rlA (Int32.toNatClampNeg (10 + (sSg s r) 53)) (sSg s r) r
def rtS (s : Nat → Int32) (r : Nat → Nat → Int32) : Nat → Int32 := upd (rtA s r).2.1 53 ((rtA s r).2.1 53 + 1)
def rtE (s : Nat → Int32) (r : Nat → Nat → Int32) : FX := if vSg s r = -1 then (1, sSg s r, r) else wrX (nI (aSg s r)) (sSg s r) r
def rtL : Nat → (Nat → Int32) → (Nat → Nat → Int32) → FX
  | 0, s, r => (0, s, r)
  | n + 1, s, r => if (sSg s r) 53 = 10 then wrX (nI (aSg s r)) (sSg s r) r else if (rtA s r).1 = 0 then (0, (rtA s r).2.1, (rtA s r).2.2) else if vSg (rtS s r) (rtA s r).2.2 = 59 then rtL n (upd (sSg (rtS s r) (rtA s r).2.2) 63 (sSg (rtS s r) (rtA s r).2.2 63 + 1)) (rtA s r).2.2 else rtE (sSg (rtS s r) (rtA s r).2.2) (rtA s r).2.2
def rtX (s : Nat → Int32) (r : Nat → Nat → Int32) : FX := rtL 11 (upd s 53 0) r
/-- the reader stands well, and so many lines are read -/
def rtI (s0 s : Nat → Int32) (d : Nat) : Prop := tB s ∧ s 26 = s0 26 ∧ s 53 = nI d ∧ d ≤ 10
theorem rtI_S {s0 s : Nat → Int32} {r : Nat → Nat → Int32} {d : Nat} (h : rtI s0 s d) (hd : ¬ (sSg s r) 53 = 10) : rtI s0 (rtS s r) (d + 1) := by
  have q := tOn_rlA (ln := Int32.toNatClampNeg (10 + (sSg s r) 53)) (r := r) (tB_sg (r := r) h.1)
  have e : (rtA s r).2.1 53 = nI d := q.2.2.2.2.2.trans h.2.2.1
  have d10 : d ≠ 10 := fun e2 => hd (h.2.2.1.trans (by rw [e2]; rfl))
  refine ⟨q.2.1, q.2.2.2.2.1.trans h.2.1, ?_, by have := h.2.2.2; omega⟩
  show (rtA s r).2.1 53 + 1 = _
  rw [e, nI_1]
theorem rtI_sg {s0 s : Nat → Int32} {r : Nat → Nat → Int32} {d : Nat} (h : rtI s0 s d) : rtI s0 (sSg s r) d := ⟨tB_sg h.1, h.2.1, h.2.2.1, h.2.2.2⟩
theorem rtI_64 {s0 s : Nat → Int32} {d : Nat} (h : rtI s0 s d) (x : Int32) : rtI s0 (upd s 64 x) d := h
theorem rtI_cm {s0 s : Nat → Int32} {r : Nat → Nat → Int32} {d : Nat} {k : Int32} (h : rtI s0 s d) (hv : vSg s r = k) (hk : ¬ k = -1) : rtI s0 (upd (sSg s r) 63 (sSg s r 63 + 1)) d := ⟨(tOn_comma h.1 hv hk).1.2.1, h.2.1, h.2.2.1, h.2.2.2⟩
theorem rtI_l {s0 s : Nat → Int32} {r : Nat → Nat → Int32} {d : Nat} (h : rtI s0 s d) (hd : ¬ (sSg s r) 53 = 10) : 10 ≤ (10 + (sSg s r) 53).toInt ∧ (10 + (sSg s r) 53).toInt < 20 := by
  have d10 : d ≠ 10 := fun e2 => hd (h.2.2.1.trans (by rw [e2]; rfl))
  have d9 := h.2.2.2
  have e : 10 + (sSg s r) 53 = nI (10 + d) := by
    show 10 + s 53 = _
    rw [h.2.2.1, show (10 : Int32) = nI 10 from rfl, nI_add]
  rw [e, nI_toInt (by omega)]
  omega
theorem rtI_L {s0 : Nat → Int32} : ∀ (n : Nat) (s : Nat → Int32) (r : Nat → Nat → Int32) (d : Nat), rtI s0 s d → ∃ d', rtI s0 (rtL n s r).2.1 d'
  | 0, s, r, d, h => ⟨d, h⟩
  | n + 1, s, r, d, h => by
    unfold rtL
    split
    · unfold wrX; dsimp only; exact ⟨d, rtI_64 (rtI_sg h) _⟩
    · rename_i hd
      have q := rtI_S h hd
      have qa := tOn_rlA (ln := Int32.toNatClampNeg (10 + (sSg s r) 53)) (r := r) (tB_sg (r := r) h.1)
      split
      · exact ⟨d, qa.2.1, qa.2.2.2.2.1.trans h.2.1, qa.2.2.2.2.2.trans h.2.2.1, h.2.2.2⟩
      · split
        · rename_i hv
          exact rtI_L n _ _ (d + 1) (rtI_cm q hv (by decide))
        · unfold rtE
          split
          · dsimp only; exact ⟨d + 1, rtI_sg (rtI_sg q)⟩
          · unfold wrX; dsimp only; exact ⟨d + 1, rtI_64 (rtI_sg (rtI_sg q)) _⟩
def cpA (r : Nat → Nat → Int32) (k : Nat) : Nat → Nat → Int32 := up2 (up2 r 54 k (r 54 (10 + k))) 55 k (r 55 (10 + k))
def cpI (r : Nat → Nat → Int32) (k : Nat) : Nat → Nat → Nat → Int32
  | 0 => r
  | i + 1 => up2 (cpI r k i) 56 (12 * k + i) (r 56 (12 * (10 + k) + i))
def cpO (r : Nat → Nat → Int32) : Nat → Nat → Nat → Int32
  | 0 => r
  | k + 1 => cpI (cpA (cpO r k) k) k 12
theorem cpI_h (r : Nat → Nat → Int32) (k j : Nat) : ∀ i, (∀ a, a < i → j ≠ 12 * k + a) → cpI r k i 56 j = r 56 j
  | 0, _ => rfl
  | i + 1, h => by
    show up2 (cpI r k i) 56 (12 * k + i) _ 56 j = _
    rw [up2_sn _ _ _ (h i (by omega))]
    exact cpI_h r k j i (fun a ha => h a (by omega))
theorem cp_1 {x : Int32} {k : Nat} (ex : x = nI k) : 10 + x = nI (10 + k) := by rw [ex, show (10 : Int32) = nI 10 from rfl, nI_add]
theorem cp_2 {x y : Int32} {k i : Nat} (ex : x = nI k) (ey : y = nI i) : 12 * x + y = nI (12 * k + i) := by rw [ex, ey, show (12 : Int32) = nI 12 from rfl, pk_mul, nI_add]
def roX (s : Nat → Int32) (r : Nat → Nat → Int32) : FX := if (rtX (bT s) r).1 = 0 then (0, upd (rtX (bT s) r).2.1 0 1, (rtX (bT s) r).2.2) else ((rtX (bT s) r).2.1 53, upd (upd (rtX (bT s) r).2.1 0 0) 52 ((rtX (bT s) r).2.1 53), cpO (rtX (bT s) r).2.2 ((rtX (bT s) r).2.1 53).toNatClampNeg)
theorem ro_53 {s : Nat → Int32} {r : Nat → Nat → Int32} (h0 : 0 ≤ (s 61).toInt) (h1 : (s 61).toInt ≤ 400) : 0 ≤ ((rtX (bT s) r).2.1 53).toInt ∧ ((rtX (bT s) r).2.1 53).toInt ≤ 10 := by
  have b := bT_B0 h0 h1
  obtain ⟨d, h⟩ := rtI_L (s0 := bT s) 11 (upd (bT s) 53 0) r 0 ⟨b, rfl, rfl, by omega⟩
  have d9 := h.2.2.2
  have e := h.2.2.1
  unfold rtX
  rw [e, nI_toInt (by omega)]
  omega
set_option maxHeartbeats 4000000 in
set_option maxRecDepth 100000 in
theorem c_X10_readTurns {l : Launch} {D : va_G} {cI cZ cB cO cR cJ : ClassId} {Hb : Heap} {lv : Nat → Prop} {ad : Nat → Nat} {ce0 : Nat → va_E} (hlv : lM lv)  (s : Nat → Int32) (r : Nat → Nat → Int32) (nk : Nat) (hB : tB s) (hk26 : (s 26).toInt = nk) (hk12 : nk ≤ 12) : mMet l D cI cZ cB cO cR cJ Hb lv ad ce0 yX10_readTurns wsX10_readTurns 4 96 [.ref (ad 0)] s r (some (.int ((rtX s r).1))) ((rtX s r).2.1) ((rtX s r).2.2) := by
  refine Met.ofW (cc := cX10_readTurns) (maxL := 3) (ret := (some .boolean)) (by decide) rfl ?_
  intro p0 e0 s0 m0 args below meth c0 s₁ B hml hv
  obtain ⟨rfl, hG, hK⟩ := hv
  have hx := B.exec
  have hb := B.bytes
  have hr := B.returns
  have hts := atoms_spec (ws := wsX10_readTurns) B.pre
  have hown : s0.vm.findClass RX10 = some m0.cls := findClass_of_methodNamed B.named
  have hlocks := B.notSynchronized
  have S : mX p0 m0 c0 cX10_readTurns 3 s0 _ wsX10_readTurns D cI cZ cB cO cR cJ lv := ⟨⟨hx, hb, hml, hown, hts⟩, hK, fun w h => List.mem_cons_of_mem _ (List.mem_append_right _ h), hlv⟩
  have hL : gL Hb [] := gL.nil
  have hl := lv_entry ([.ref (ad 0)]) (n := 3) (Nat.le_of_ble_eq_true rfl)
  rw [lg_entry_eq]
  generalize (lg_sl ([.ref (ad 0)]) ++ List.replicate (3 - (lg_sl ([.ref (ad 0)])).length) Slot.unset).toArray = ls at hl ⊢
  have hl : lv_has ls 3 [(0, .ref (ad 0))] := hl
  refine lv_aload_n hx hb dX10_readTurns_0 rfl (lv_at hl 0 rfl) ?_
  refine lv_iconst (v := 0) hx hb dX10_readTurns_1 (by decide) ?_
  refine m_pi S hG hL 53 rfl (hts (.fieldLink RX10 300 "SwarmLineModel" "draftLines" "I") (by decide +kernel)) dX10_readTurns_2 (fun H locs hG hL => ?_)
  refine lv_iconst (v := 1) hx hb dX10_readTurns_5 (by decide) ?_
  refine lv_istore_n (lv' := [(1, .int 1), (0, .ref (ad 0))]) hx hb dX10_readTurns_6 rfl hl (by decide) rfl (fun ls hl => ?_)
  refine lv_iload_n hx hb dX10_readTurns_7 rfl (lv_at hl 0 rfl) ?_
  refine lv_if_eq (tgt := 92) hx hb dX10_readTurns_8 (by decide) (fun c => absurd c (by decide)) (fun _ => ?_)
  have LP : ∀ (n : Nat) (d : Nat) (sv : Nat → Int32) (rv : Nat → Nat → Int32) (hI : rtI s sv d) (hn : 11 ≤ d + n) (hF : rtL n sv rv = rtX s r), ∀ (H : Heap) (locs : List Loc), gW D Hb lv ad (mJ ce0 ad cI cZ sv rv) H → gL Hb locs → ∀ (ls : Array Slot), lv_has ls 3 [(0, .ref (ad 0))] → W p0 l e0 (headSpec wsX10_readTurns { frames := 4, cells := 0, slots := 0, locals := 96 }).room s0 m0 ([.ref (ad 0)] : List Value).toArray below meth c0 H locs 0 0 (MQ below (gQ D Hb lv ad (some (.int ((rtX s r).1))) (mJ ce0 ad cI cZ ((rtX s r).2.1) ((rtX s r).2.2))) ([.ref (ad 0)] : List Value).toArray s0 0 0 (gA Hb)) (F0 m0 11 ls []) := by
    intro n
    induction n with
    | zero => intro d sv rv hI hn hF; exact absurd hn (by have := hI.2.2.2; omega)
    | succ n ih =>
      intro d sv rv hI hn hF H locs hG hL ls hl
      refine lv_aload_n hx hb dX10_readTurns_11 rfl (lv_at hl 0 rfl) ?_
      refine m_callV (n := 0) (As := []) (rest := []) (st1 := .int (vSg sv rv) :: []) S hG hL (c_X10_sign hlv  sv rv (hI.1)) gX10_readTurns_X10_sign rfl (by decide +kernel) ⟨Nat.le_of_ble_eq_true rfl, Nat.le_of_ble_eq_true rfl⟩ rfl hl.1 rfl (Nat.le_of_ble_eq_true rfl) dX10_readTurns_12 ⟨Nat.zero_le _, Nat.zero_le _⟩ (rfl) (fun H locs hG hL => ?_)
      refine lv_istore_n (lv' := [(2, .int (vSg sv rv)), (0, .ref (ad 0))]) hx hb dX10_readTurns_15 rfl hl (by decide) rfl (fun ls hl => ?_)
      refine lv_aload_n hx hb dX10_readTurns_16 rfl (lv_at hl 1 rfl) ?_
      refine m_gi (v := (sSg sv rv) 53) S hG 53 rfl (hts (.fieldLink RX10 300 "SwarmLineModel" "draftLines" "I") (by decide +kernel)) dX10_readTurns_17 rfl ?_
      refine lv_bipush (v := 10) hx hb dX10_readTurns_20 (by decide) ?_
      refine lv_icmp_ne (tgt := 34) hx hb dX10_readTurns_22 (by decide) (fun c22 => ?_) (fun c22 => ?_)
      ·
        refine lv_aload_n hx hb dX10_readTurns_34 rfl (lv_at hl 1 rfl) ?_
        refine lv_bipush (v := 10) hx hb dX10_readTurns_35 (by decide) ?_
        refine lv_aload_n hx hb dX10_readTurns_37 rfl (lv_at hl 1 rfl) ?_
        refine m_gi (v := (sSg sv rv) 53) S hG 53 rfl (hts (.fieldLink RX10 300 "SwarmLineModel" "draftLines" "I") (by decide +kernel)) dX10_readTurns_38 rfl ?_
        refine lv_iadd hx hb dX10_readTurns_41 ?_
        refine m_callV (n := 1) (As := [.int (10 + ((sSg sv rv) 53))]) (rest := []) (st1 := .int ((rtA sv rv).1) :: []) S hG hL (c_X10_readLine hlv (10 + ((sSg sv rv) 53)) (sSg sv rv) rv (nk) (tB_sg hI.1) (rtI_l hI c22) (by show (sv 26).toInt = nk; rw [hI.2.1]; exact hk26) (hk12)) gX10_readTurns_X10_readLine rfl (by decide +kernel) ⟨Nat.le_of_ble_eq_true rfl, Nat.le_of_ble_eq_true rfl⟩ rfl hl.1 rfl (Nat.le_of_ble_eq_true rfl) dX10_readTurns_42 ⟨Nat.zero_le _, Nat.zero_le _⟩ (rfl) (fun H locs hG hL => ?_)
        have hG : gW D Hb lv ad (mJ ce0 ad cI cZ (rtA sv rv).2.1 (rtA sv rv).2.2) H := hG
        refine lv_if_ne (tgt := 50) hx hb dX10_readTurns_45 (by decide) (fun c45 => ?_) (fun c45 => ?_)
        ·
          refine lv_aload_n hx hb dX10_readTurns_50 rfl (lv_at hl 1 rfl) ?_
          refine lv_dup hx hb dX10_readTurns_51 rfl ?_
          refine m_gi (v := (rtA sv rv).2.1 53) S hG 53 rfl (hts (.fieldLink RX10 300 "SwarmLineModel" "draftLines" "I") (by decide +kernel)) dX10_readTurns_52 rfl ?_
          refine lv_iconst (v := 1) hx hb dX10_readTurns_55 (by decide) ?_
          refine lv_iadd hx hb dX10_readTurns_56 ?_
          refine m_pi S hG hL 53 rfl (hts (.fieldLink RX10 300 "SwarmLineModel" "draftLines" "I") (by decide +kernel)) dX10_readTurns_57 (fun H locs hG hL => ?_)
          have hG : gW D Hb lv ad (mJ ce0 ad cI cZ (rtS sv rv) (rtA sv rv).2.2) H := hG
          refine lv_aload_n hx hb dX10_readTurns_60 rfl (lv_at hl 1 rfl) ?_
          refine m_callV (n := 0) (As := []) (rest := []) (st1 := .int (vSg (rtS sv rv) (rtA sv rv).2.2) :: []) S hG hL (c_X10_sign hlv  (rtS sv rv) (rtA sv rv).2.2 ((rtI_S hI c22).1)) gX10_readTurns_X10_sign rfl (by decide +kernel) ⟨Nat.le_of_ble_eq_true rfl, Nat.le_of_ble_eq_true rfl⟩ rfl hl.1 rfl (Nat.le_of_ble_eq_true rfl) dX10_readTurns_61 ⟨Nat.zero_le _, Nat.zero_le _⟩ (rfl) (fun H locs hG hL => ?_)
          refine lv_bipush (v := 59) hx hb dX10_readTurns_64 (by decide) ?_
          refine lv_icmp_ne (tgt := 73) hx hb dX10_readTurns_66 (by decide) (fun c66 => ?_) (fun c66 => ?_)
          ·
            refine lv_iconst (v := 0) hx hb dX10_readTurns_73 (by decide) ?_
            refine lv_istore_n (lv' := [(1, .int 0), (2, .int (vSg sv rv)), (0, .ref (ad 0))]) hx hb dX10_readTurns_74 rfl hl (by decide) rfl (fun ls hl => ?_)
            refine lv_iload_n hx hb dX10_readTurns_75 rfl (lv_at hl 0 rfl) ?_
            refine lv_if_eq (tgt := 89) hx hb dX10_readTurns_76 (by decide) (fun _ => ?_) (fun c => absurd c (by decide))
            refine lv_goto (tgt := 7) hx hb dX10_readTurns_89 (by decide) ?_
            refine lv_iload_n hx hb dX10_readTurns_7 rfl (lv_at hl 0 rfl) ?_
            refine lv_if_eq (tgt := 92) hx hb dX10_readTurns_8 (by decide) (fun _ => ?_) (fun c => absurd c (by decide))
            refine lv_aload_n hx hb dX10_readTurns_92 rfl (lv_at hl 2 rfl) ?_
            refine m_callV (n := 0) (As := []) (rest := []) (st1 := .int (vSg (sSg (rtS sv rv) (rtA sv rv).2.2) (rtA sv rv).2.2) :: []) S hG hL (c_X10_sign hlv  (sSg (rtS sv rv) (rtA sv rv).2.2) (rtA sv rv).2.2 (tB_sg (rtI_S hI c22).1)) gX10_readTurns_X10_sign rfl (by decide +kernel) ⟨Nat.le_of_ble_eq_true rfl, Nat.le_of_ble_eq_true rfl⟩ rfl hl.1 rfl (Nat.le_of_ble_eq_true rfl) dX10_readTurns_93 ⟨Nat.zero_le _, Nat.zero_le _⟩ (rfl) (fun H locs hG hL => ?_)
            refine lv_iconst (v := (-1)) hx hb dX10_readTurns_96 (by decide) ?_
            refine lv_icmp_eq (tgt := 111) hx hb dX10_readTurns_97 (by decide) (fun c97 => ?_) (fun c97 => ?_)
            ·
              refine lv_iconst (v := 1) hx hb dX10_readTurns_111 (by decide) ?_
              refine lv_goto (tgt := 116) hx hb dX10_readTurns_112 (by decide) ?_
              exact m_zret S hr hlocks (by decide) hG hL dX10_readTurns_116 (by rw [← hF]; simp only [rtL, rtE, wrX, sSg_63, eq_false c22, eq_false c45, eq_false c66, eq_true c97, ↓reduceIte]) (by rw [← hF]; simp only [rtL, rtE, wrX, sSg_63, eq_false c22, eq_false c45, eq_false c66, eq_true c97, ↓reduceIte]) (by rw [← hF]; simp only [rtL, rtE, wrX, sSg_63, eq_false c22, eq_false c45, eq_false c66, eq_true c97, ↓reduceIte])
            ·
              refine lv_aload_n hx hb dX10_readTurns_100 rfl (lv_at hl 2 rfl) ?_
              refine lv_aload_n hx hb dX10_readTurns_101 rfl (lv_at hl 2 rfl) ?_
              refine m_gi (v := (sSg (sSg (rtS sv rv) (rtA sv rv).2.2) (rtA sv rv).2.2) 63) S hG 63 rfl (hts (.fieldLink RX10 238 "SwarmLineModel" "at" "I") (by decide +kernel)) dX10_readTurns_102 rfl ?_
              refine m_callV (n := 1) (As := [.int ((sSg (sSg (rtS sv rv) (rtA sv rv).2.2) (rtA sv rv).2.2) 63)]) (rest := []) (st1 := .int 0 :: []) S hG hL (c_X10_wrong hlv ((sSg (sSg (rtS sv rv) (rtA sv rv).2.2) (rtA sv rv).2.2) 63) (sSg (sSg (rtS sv rv) (rtA sv rv).2.2) (rtA sv rv).2.2) (rtA sv rv).2.2 ) gX10_readTurns_X10_wrong rfl (by decide +kernel) ⟨Nat.le_of_ble_eq_true rfl, Nat.le_of_ble_eq_true rfl⟩ rfl hl.1 rfl (Nat.le_of_ble_eq_true rfl) dX10_readTurns_105 ⟨Nat.zero_le _, Nat.zero_le _⟩ (rfl) (fun H locs hG hL => ?_)
              refine lv_if_eq (tgt := 115) hx hb dX10_readTurns_108 (by decide) (fun _ => ?_) (fun c => absurd c (by decide))
              refine lv_iconst (v := 0) hx hb dX10_readTurns_115 (by decide) ?_
              exact m_zret S hr hlocks (by decide) hG hL dX10_readTurns_116 (by rw [← hF]; simp only [rtL, rtE, wrX, sSg_63, eq_false c22, eq_false c45, eq_false c66, eq_false c97, ↓reduceIte]) (by rw [← hF]; simp only [rtL, rtE, wrX, sSg_63, eq_false c22, eq_false c45, eq_false c66, eq_false c97, ↓reduceIte]) (by rw [← hF]; simp only [rtL, rtE, wrX, sSg_63, eq_false c22, eq_false c45, eq_false c66, eq_false c97, ↓reduceIte])
          ·
            refine lv_iconst (v := 1) hx hb dX10_readTurns_69 (by decide) ?_
            refine lv_goto (tgt := 74) hx hb dX10_readTurns_70 (by decide) ?_
            refine lv_istore_n (lv' := [(1, .int 1), (2, .int (vSg sv rv)), (0, .ref (ad 0))]) hx hb dX10_readTurns_74 rfl hl (by decide) rfl (fun ls hl => ?_)
            refine lv_iload_n hx hb dX10_readTurns_75 rfl (lv_at hl 0 rfl) ?_
            refine lv_if_eq (tgt := 89) hx hb dX10_readTurns_76 (by decide) (fun c => absurd c (by decide)) (fun _ => ?_)
            refine lv_aload_n hx hb dX10_readTurns_79 rfl (lv_at hl 2 rfl) ?_
            refine lv_dup hx hb dX10_readTurns_80 rfl ?_
            refine m_gi (v := (sSg (rtS sv rv) (rtA sv rv).2.2) 63) S hG 63 rfl (hts (.fieldLink RX10 238 "SwarmLineModel" "at" "I") (by decide +kernel)) dX10_readTurns_81 rfl ?_
            refine lv_iconst (v := 1) hx hb dX10_readTurns_84 (by decide) ?_
            refine lv_iadd hx hb dX10_readTurns_85 ?_
            refine m_pi S hG hL 63 rfl (hts (.fieldLink RX10 238 "SwarmLineModel" "at" "I") (by decide +kernel)) dX10_readTurns_86 (fun H locs hG hL => ?_)
            refine lv_goto (tgt := 7) hx hb dX10_readTurns_89 (by decide) ?_
            refine lv_iload_n hx hb dX10_readTurns_7 rfl (lv_at hl 0 rfl) ?_
            refine lv_if_eq (tgt := 92) hx hb dX10_readTurns_8 (by decide) (fun c => absurd c (by decide)) (fun _ => ?_)
            exact ih  (d + 1) (upd (sSg (rtS sv rv) (rtA sv rv).2.2) 63 (((sSg (rtS sv rv) (rtA sv rv).2.2) 63) + 1)) ((rtA sv rv).2.2) (rtI_cm (rtI_S hI c22) c66 (by decide)) (by omega) (by rw [← hF]; simp only [rtL, eq_false c22, eq_false c45, eq_true c66, ↓reduceIte]) _ _ hG hL _ (lv_sub hl [2] rfl)
        ·
          refine lv_iconst (v := 0) hx hb dX10_readTurns_48 (by decide) ?_
          exact m_zret S hr hlocks (by decide) hG hL dX10_readTurns_49 (by rw [← hF]; simp only [rtL, rtE, wrX, sSg_63, eq_false c22, eq_true c45, ↓reduceIte]) (by rw [← hF]; simp only [rtL, rtE, wrX, sSg_63, eq_false c22, eq_true c45, ↓reduceIte]) (by rw [← hF]; simp only [rtL, rtE, wrX, sSg_63, eq_false c22, eq_true c45, ↓reduceIte])
      ·
        refine lv_aload_n hx hb dX10_readTurns_25 rfl (lv_at hl 1 rfl) ?_
        refine lv_aload_n hx hb dX10_readTurns_26 rfl (lv_at hl 1 rfl) ?_
        refine m_gi (v := (sSg sv rv) 63) S hG 63 rfl (hts (.fieldLink RX10 238 "SwarmLineModel" "at" "I") (by decide +kernel)) dX10_readTurns_27 rfl ?_
        refine m_callV (n := 1) (As := [.int ((sSg sv rv) 63)]) (rest := []) (st1 := .int 0 :: []) S hG hL (c_X10_wrong hlv ((sSg sv rv) 63) (sSg sv rv) rv ) gX10_readTurns_X10_wrong rfl (by decide +kernel) ⟨Nat.le_of_ble_eq_true rfl, Nat.le_of_ble_eq_true rfl⟩ rfl hl.1 rfl (Nat.le_of_ble_eq_true rfl) dX10_readTurns_30 ⟨Nat.zero_le _, Nat.zero_le _⟩ (rfl) (fun H locs hG hL => ?_)
        exact m_zret S hr hlocks (by decide) hG hL dX10_readTurns_33 (by rw [← hF]; simp only [rtL, rtE, wrX, sSg_63, eq_true c22, ↓reduceIte]) (by rw [← hF]; simp only [rtL, rtE, wrX, sSg_63, eq_true c22, ↓reduceIte]) (by rw [← hF]; simp only [rtL, rtE, wrX, sSg_63, eq_true c22, ↓reduceIte])
  exact LP 11 0 (upd s 53 0) r (⟨hB, rfl, rfl, by omega⟩) (by omega) (rfl) _ _ hG hL _ (lv_sub hl [1] rfl)
set_option maxHeartbeats 4000000 in
set_option maxRecDepth 100000 in
theorem c_X10_rota {l : Launch} {D : va_G} {cI cZ cB cO cR cJ : ClassId} {Hb : Heap} {lv : Nat → Prop} {ad : Nat → Nat} {ce0 : Nat → va_E} (hlv : lM lv)  (s : Nat → Int32) (r : Nat → Nat → Int32) (nk : Nat) (h0 : 0 ≤ (s 61).toInt) (h1 : (s 61).toInt ≤ 400) (hk26 : (s 26).toInt = nk) (hk12 : nk ≤ 12) : mMet l D cI cZ cB cO cR cJ Hb lv ad ce0 yX10_rota wsX10_rota 5 118 [.ref (ad 0)] s r (some (.int ((roX s r).1))) ((roX s r).2.1) ((roX s r).2.2) := by
  refine Met.ofW (cc := cX10_rota) (maxL := 3) (ret := (some .int)) (by decide) rfl ?_
  intro p0 e0 s0 m0 args below meth c0 s₁ B hml hv
  obtain ⟨rfl, hG, hK⟩ := hv
  have hx := B.exec
  have hb := B.bytes
  have hr := B.returns
  have hts := atoms_spec (ws := wsX10_rota) B.pre
  have hown : s0.vm.findClass RX10 = some m0.cls := findClass_of_methodNamed B.named
  have hlocks := B.notSynchronized
  have S : mX p0 m0 c0 cX10_rota 3 s0 _ wsX10_rota D cI cZ cB cO cR cJ lv := ⟨⟨hx, hb, hml, hown, hts⟩, hK, fun w h => List.mem_cons_of_mem _ (List.mem_append_right _ h), hlv⟩
  have hL : gL Hb [] := gL.nil
  have hl := lv_entry ([.ref (ad 0)]) (n := 3) (Nat.le_of_ble_eq_true rfl)
  rw [lg_entry_eq]
  generalize (lg_sl ([.ref (ad 0)]) ++ List.replicate (3 - (lg_sl ([.ref (ad 0)])).length) Slot.unset).toArray = ls at hl ⊢
  have hl : lv_has ls 3 [(0, .ref (ad 0))] := hl
  have g53 := ro_53 (r := r) h0 h1
  refine lv_aload_n hx hb dX10_rota_0 rfl (lv_at hl 0 rfl) ?_
  refine m_callV (n := 0) (As := []) (rest := []) (st1 := []) S hG hL (c_X10_beginText hlv  s r ) gX10_rota_X10_beginText rfl (by decide +kernel) ⟨Nat.le_of_ble_eq_true rfl, Nat.le_of_ble_eq_true rfl⟩ rfl hl.1 rfl (Nat.le_of_ble_eq_true rfl) dX10_rota_1 ⟨Nat.zero_le _, Nat.zero_le _⟩ (rfl) (fun H locs hG hL => ?_)
  have hG : gW D Hb lv ad (mJ ce0 ad cI cZ (bT s) r) H := hG
  refine lv_aload_n hx hb dX10_rota_4 rfl (lv_at hl 0 rfl) ?_
  refine lv_aload_n hx hb dX10_rota_5 rfl (lv_at hl 0 rfl) ?_
  refine m_callV (n := 0) (As := []) (rest := [.ref (ad 0)]) (st1 := .int ((rtX (bT s) r).1) :: [.ref (ad 0)]) S hG hL (c_X10_readTurns hlv  (bT s) r (nk) (bT_B0 h0 h1) (hk26) (hk12)) gX10_rota_X10_readTurns rfl (by decide +kernel) ⟨Nat.le_of_ble_eq_true rfl, Nat.le_of_ble_eq_true rfl⟩ rfl hl.1 rfl (Nat.le_of_ble_eq_true rfl) dX10_rota_6 ⟨Nat.zero_le _, Nat.zero_le _⟩ (rfl) (fun H locs hG hL => ?_)
  refine lv_if_eq (tgt := 16) hx hb dX10_rota_9 (by decide) (fun c9 => ?_) (fun c9 => ?_)
  ·
    refine lv_iconst (v := 1) hx hb dX10_rota_16 (by decide) ?_
    refine m_pi S hG hL 0 rfl (hts (.fieldLink RX10 180 "SwarmLineModel" "thrown" "I") (by decide +kernel)) dX10_rota_17 (fun H locs hG hL => ?_)
    refine lv_aload_n hx hb dX10_rota_20 rfl (lv_at hl 0 rfl) ?_
    refine m_gi (v := 1) S hG 0 rfl (hts (.fieldLink RX10 180 "SwarmLineModel" "thrown" "I") (by decide +kernel)) dX10_rota_21 rfl ?_
    refine lv_if_le (tgt := 29) hx hb dX10_rota_24 (by decide) (fun c => absurd c (by decide)) (fun _ => ?_)
    refine lv_iconst (v := 0) hx hb dX10_rota_27 (by decide) ?_
    exact m_iret S hr hlocks hG hL dX10_rota_28 (by simp only [roX, eq_true c9, ↓reduceIte]) (by simp only [roX, eq_true c9, ↓reduceIte]) (by simp only [roX, eq_true c9, ↓reduceIte])
  ·
    refine lv_iconst (v := 0) hx hb dX10_rota_12 (by decide) ?_
    refine lv_goto (tgt := 17) hx hb dX10_rota_13 (by decide) ?_
    refine m_pi S hG hL 0 rfl (hts (.fieldLink RX10 180 "SwarmLineModel" "thrown" "I") (by decide +kernel)) dX10_rota_17 (fun H locs hG hL => ?_)
    refine lv_aload_n hx hb dX10_rota_20 rfl (lv_at hl 0 rfl) ?_
    refine m_gi (v := 0) S hG 0 rfl (hts (.fieldLink RX10 180 "SwarmLineModel" "thrown" "I") (by decide +kernel)) dX10_rota_21 rfl ?_
    refine lv_if_le (tgt := 29) hx hb dX10_rota_24 (by decide) (fun _ => ?_) (fun c => absurd c (by decide))
    refine lv_aload_n hx hb dX10_rota_29 rfl (lv_at hl 0 rfl) ?_
    refine lv_aload_n hx hb dX10_rota_30 rfl (lv_at hl 0 rfl) ?_
    refine m_gi (v := ((rtX (bT s) r).2.1) 53) S hG 53 rfl (hts (.fieldLink RX10 300 "SwarmLineModel" "draftLines" "I") (by decide +kernel)) dX10_rota_31 rfl ?_
    refine m_pi S hG hL 52 rfl (hts (.fieldLink RX10 309 "SwarmLineModel" "lines" "I") (by decide +kernel)) dX10_rota_34 (fun H locs hG hL => ?_)
    refine lv_iconst (v := 0) hx hb dX10_rota_37 (by decide) ?_
    refine lv_istore_n (lv' := [(1, .int 0), (0, .ref (ad 0))]) hx hb dX10_rota_38 rfl hl (by decide) rfl (fun ls hl => ?_)
    have LP : ∀ (n : Nat) (i : Nat) (x : Int32) (rv : Nat → Nat → Int32) (ex : x = nI i) (hi : i ≤ ((rtX (bT s) r).2.1 53).toNatClampNeg) (hn : ((rtX (bT s) r).2.1 53).toNatClampNeg + 1 ≤ i + n) (hR : rv = cpO (rtX (bT s) r).2.2 i), ∀ (H : Heap) (locs : List Loc), gW D Hb lv ad (mJ ce0 ad cI cZ (upd (upd (rtX (bT s) r).2.1 0 0) 52 ((rtX (bT s) r).2.1 53)) rv) H → gL Hb locs → ∀ (ls : Array Slot), lv_has ls 3 [(0, .ref (ad 0)), (1, .int x)] → W p0 l e0 (headSpec wsX10_rota { frames := 5, cells := 0, slots := 0, locals := 118 }).room s0 m0 ([.ref (ad 0)] : List Value).toArray below meth c0 H locs 0 0 (MQ below (gQ D Hb lv ad (some (.int ((roX s r).1))) (mJ ce0 ad cI cZ ((roX s r).2.1) ((roX s r).2.2))) ([.ref (ad 0)] : List Value).toArray s0 0 0 (gA Hb)) (F0 m0 39 ls []) := by
      intro n
      induction n with
      | zero => intro i x rv ex hi hn hR; exact absurd hn (by omega)
      | succ n ih =>
        intro i x rv ex hi hn hR H locs hG hL ls hl
        have hbd : ((rtX (bT s) r).2.1 53).toNatClampNeg ≤ 10 := t_ixl g53.1 g53.2; have hii : Int32.toNatClampNeg x = i := by { rw [ex]; exact ix_nI (by omega) }; have hx10 : Int32.toNatClampNeg (10 + x) = 10 + i := by { rw [cp_1 ex]; exact ix_nI (by omega) }
        refine lv_iload_n hx hb dX10_rota_39 rfl (lv_at hl 1 rfl) ?_
        refine lv_aload_n hx hb dX10_rota_40 rfl (lv_at hl 0 rfl) ?_
        refine m_gi (v := (rtX (bT s) r).2.1 53) S hG 52 rfl (hts (.fieldLink RX10 309 "SwarmLineModel" "lines" "I") (by decide +kernel)) dX10_rota_41 rfl ?_
        refine lv_icmp_ge (tgt := 122) hx hb dX10_rota_44 (by decide) (fun c44 => ?_) (fun c44 => ?_)
        ·
          have hEq := cl_ge g53.1 hi (ex ▸ c44)
          refine lv_aload_n hx hb dX10_rota_122 rfl (lv_at hl 0 rfl) ?_
          refine m_gi (v := (rtX (bT s) r).2.1 53) S hG 52 rfl (hts (.fieldLink RX10 309 "SwarmLineModel" "lines" "I") (by decide +kernel)) dX10_rota_123 rfl ?_
          exact m_iret S hr hlocks hG hL dX10_rota_126 (by simp only [roX, eq_false c9, ↓reduceIte]) (by simp only [roX, eq_false c9, ↓reduceIte]) (by simp only [roX, eq_false c9, ↓reduceIte]; rw [hR, hEq])
        ·
          have hlt := cl_lt g53.1 hi (ex ▸ c44)
          refine lv_aload_n hx hb dX10_rota_47 rfl (lv_at hl 0 rfl) ?_
          refine m_ga S hG 54 rfl (hts (.fieldLink RX10 146 "SwarmLineModel" "lineDistrict" "[I") (by decide +kernel)) dX10_rota_48 ?_
          refine lv_iload_n hx hb dX10_rota_51 rfl (lv_at hl 1 rfl) ?_
          refine lv_aload_n hx hb dX10_rota_52 rfl (lv_at hl 0 rfl) ?_
          refine m_ga S hG 54 rfl (hts (.fieldLink RX10 146 "SwarmLineModel" "lineDistrict" "[I") (by decide +kernel)) dX10_rota_53 ?_
          refine lv_bipush (v := 10) hx hb dX10_rota_56 (by decide) ?_
          refine lv_iload_n hx hb dX10_rota_58 rfl (lv_at hl 1 rfl) ?_
          refine lv_iadd hx hb dX10_rota_59 ?_
          refine m_ldj (j := 10 + i) (v := rv 54 (10 + i)) S hG 54 rfl hx10 (show vp_in (10 + x) 20 from by rw [cp_1 ex]; exact vp_in_i (by omega) (by omega)) dX10_rota_60 (rfl) ?_
          refine m_stj (j := i) S hG hL 54 rfl hii (show vp_in x 20 from by rw [ex]; exact vp_in_i (by omega) (by omega)) dX10_rota_61 (fun H locs hG hL => ?_)
          refine lv_aload_n hx hb dX10_rota_62 rfl (lv_at hl 0 rfl) ?_
          refine m_ga S hG 55 rfl (hts (.fieldLink RX10 149 "SwarmLineModel" "lineMany" "[I") (by decide +kernel)) dX10_rota_63 ?_
          refine lv_iload_n hx hb dX10_rota_66 rfl (lv_at hl 1 rfl) ?_
          refine lv_aload_n hx hb dX10_rota_67 rfl (lv_at hl 0 rfl) ?_
          refine m_ga S hG 55 rfl (hts (.fieldLink RX10 149 "SwarmLineModel" "lineMany" "[I") (by decide +kernel)) dX10_rota_68 ?_
          refine lv_bipush (v := 10) hx hb dX10_rota_71 (by decide) ?_
          refine lv_iload_n hx hb dX10_rota_73 rfl (lv_at hl 1 rfl) ?_
          refine lv_iadd hx hb dX10_rota_74 ?_
          refine m_ldj (j := 10 + i) (v := rv 55 (10 + i)) S hG 55 rfl hx10 (show vp_in (10 + x) 20 from by rw [cp_1 ex]; exact vp_in_i (by omega) (by omega)) dX10_rota_75 ((up2_n _ _ _ _ (by decide)).trans (rfl)) ?_
          refine m_stj (j := i) S hG hL 55 rfl hii (show vp_in x 20 from by rw [ex]; exact vp_in_i (by omega) (by omega)) dX10_rota_76 (fun H locs hG hL => ?_)
          refine lv_iconst (v := 0) hx hb dX10_rota_77 (by decide) ?_
          refine lv_istore_n (lv' := [(2, .int 0), (0, .ref (ad 0)), (1, .int x)]) hx hb dX10_rota_78 rfl hl (by decide) rfl (fun ls hl => ?_)
          have LI : ∀ (m : Nat) (k : Nat) (y : Int32) (r2 : Nat → Nat → Int32) (ey : y = nI k) (hk : k ≤ 12) (hm : 13 ≤ k + m) (hR2 : r2 = cpI (cpA rv i) i k), ∀ (H : Heap) (locs : List Loc), gW D Hb lv ad (mJ ce0 ad cI cZ (upd (upd (rtX (bT s) r).2.1 0 0) 52 ((rtX (bT s) r).2.1 53)) r2) H → gL Hb locs → ∀ (ls : Array Slot), lv_has ls 3 [(0, .ref (ad 0)), (1, .int x), (2, .int y)] → W p0 l e0 (headSpec wsX10_rota { frames := 5, cells := 0, slots := 0, locals := 118 }).room s0 m0 ([.ref (ad 0)] : List Value).toArray below meth c0 H locs 0 0 (MQ below (gQ D Hb lv ad (some (.int ((roX s r).1))) (mJ ce0 ad cI cZ ((roX s r).2.1) ((roX s r).2.2))) ([.ref (ad 0)] : List Value).toArray s0 0 0 (gA Hb)) (F0 m0 79 ls []) := by
            intro m
            induction m with
            | zero => intro k y r2 ey hk hm hR2; exact absurd hm (by omega)
            | succ m ihm =>
              intro k y r2 ey hk hm hR2 H locs hG hL ls hl
              have hj1 : Int32.toNatClampNeg (12 * x + y) = 12 * i + k := by { rw [cp_2 ex ey]; exact ix_nI (by omega) }; have hj2 : Int32.toNatClampNeg (12 * (10 + x) + y) = 12 * (10 + i) + k := by { rw [cp_2 (cp_1 ex) ey]; exact ix_nI (by omega) }
              refine lv_iload_n hx hb dX10_rota_79 rfl (lv_at hl 2 rfl) ?_
              refine lv_bipush (v := 12) hx hb dX10_rota_80 (by decide) ?_
              refine lv_icmp_ge (tgt := 116) hx hb dX10_rota_82 (by decide) (fun c82 => ?_) (fun c82 => ?_)
              ·
                have hE2 : k = 12 := by { have h := (nle (by omega) (by omega)).mp (ey ▸ c82 : nI 12 ≤ nI k); omega }
                refine lv_iinc (v := x + 1) (lv' := [(1, .int (x + 1)), (0, .ref (ad 0)), (2, .int y)]) hx hb dX10_rota_116 hl (k := 1) rfl (by rfl) (by decide) rfl (fun ls hl => ?_)
                refine lv_goto (tgt := 39) hx hb dX10_rota_119 (by decide) ?_
                exact ih  (i + 1) (x + 1) r2 (by rw [ex]; exact nI_1 i) (hlt) (by omega) (by rw [hR2, hE2]; show cpI (cpA rv i) i 12 = cpI (cpA (cpO (rtX (bT s) r).2.2 i) i) i 12; rw [← hR]) _ _ hG hL _ (lv_sub hl [1, 0] rfl)
              ·
                have hlt2 : k < 12 := by { have h := (not_congr (nle (by omega) (by omega))).mp (ey ▸ c82 : ¬ nI 12 ≤ nI k); omega }
                refine lv_aload_n hx hb dX10_rota_85 rfl (lv_at hl 0 rfl) ?_
                refine m_ga S hG 56 rfl (hts (.fieldLink RX10 152 "SwarmLineModel" "lineKeeper" "[I") (by decide +kernel)) dX10_rota_86 ?_
                refine lv_bipush (v := 12) hx hb dX10_rota_89 (by decide) ?_
                refine lv_iload_n hx hb dX10_rota_91 rfl (lv_at hl 1 rfl) ?_
                refine lv_imul hx hb dX10_rota_92 ?_
                refine lv_iload_n hx hb dX10_rota_93 rfl (lv_at hl 2 rfl) ?_
                refine lv_iadd hx hb dX10_rota_94 ?_
                refine lv_aload_n hx hb dX10_rota_95 rfl (lv_at hl 0 rfl) ?_
                refine m_ga S hG 56 rfl (hts (.fieldLink RX10 152 "SwarmLineModel" "lineKeeper" "[I") (by decide +kernel)) dX10_rota_96 ?_
                refine lv_bipush (v := 12) hx hb dX10_rota_99 (by decide) ?_
                refine lv_bipush (v := 10) hx hb dX10_rota_101 (by decide) ?_
                refine lv_iload_n hx hb dX10_rota_103 rfl (lv_at hl 1 rfl) ?_
                refine lv_iadd hx hb dX10_rota_104 ?_
                refine lv_imul hx hb dX10_rota_105 ?_
                refine lv_iload_n hx hb dX10_rota_106 rfl (lv_at hl 2 rfl) ?_
                refine lv_iadd hx hb dX10_rota_107 ?_
                refine m_ldj (j := 12 * (10 + i) + k) (v := (cpA rv i) 56 (12 * (10 + i) + k)) S hG 56 rfl hj2 (show vp_in ((12 * (10 + x)) + y) 240 from by rw [cp_2 (cp_1 ex) ey]; exact vp_in_i (by omega) (by omega)) dX10_rota_108 (by rw [hR2]; exact cpI_h _ _ _ _ (fun a ha => by omega)) ?_
                refine m_stj (j := 12 * i + k) S hG hL 56 rfl hj1 (show vp_in ((12 * x) + y) 240 from by rw [cp_2 ex ey]; exact vp_in_i (by omega) (by omega)) dX10_rota_109 (fun H locs hG hL => ?_)
                refine lv_iinc (v := y + 1) (lv' := [(2, .int (y + 1)), (0, .ref (ad 0)), (1, .int x)]) hx hb dX10_rota_110 hl (k := 2) rfl (by rfl) (by decide) rfl (fun ls hl => ?_)
                refine lv_goto (tgt := 79) hx hb dX10_rota_113 (by decide) ?_
                exact ihm  (k + 1) (y + 1) (up2 r2 56 (12 * i + k) ((cpA rv i) 56 (12 * (10 + i) + k))) (by rw [ey]; exact nI_1 k) (by omega) (by omega) (by rw [hR2]; rfl) _ _ hG hL _ (lv_sub hl [1, 2, 0] rfl)
          exact LI 13 0 0 (up2 (up2 rv 54 i (rv 54 (10 + i))) 55 i (rv 55 (10 + i))) (rfl) (by omega) (by omega) (rfl) _ _ hG hL _ (lv_sub hl [1, 2, 0] rfl)
    exact LP (((rtX (bT s) r).2.1 53).toNatClampNeg + 1) 0 0 ((rtX (bT s) r).2.2) (rfl) (Nat.zero_le _) (by omega) (rfl) _ _ hG hL _ (lv_sub hl [1, 0] rfl)
