/-! reading a text: the next sign, the end of a word, a word, a number -/
theorem upd_tw (f : Nat → Int32) (k : Nat) (v w : Int32) : upd (upd f k v) k w = upd f k w := by funext j; by_cases h : j = k <;> simp [upd, h]
theorem upd_id (f : Nat → Int32) (k : Nat) : upd f k (f k) = f := by funext j; by_cases h : j = k <;> simp [upd, h]
section MRY
variable {p : Program} {l : Launch} {e : Env} {R : Room} {s : State} {m : MethodId} {args : Array Value} {below : List Frame} {meth : Method} {c : Code} {H : Heap} {locs : List Loc} {cells slots : Nat} {Q : State → Prop}
variable {cc : ByteArray} {pc nL : Nat} {ls : Array Slot} {rest st0 : List Value} {D : va_G} {cI cZ cB cO cR cJ : ClassId} {Hb : Heap} {lv : Nat → Prop} {ad : Nat → Nat} {ce0 : Nat → va_E} {Ts : List Cond} {sm sm2 : Nat → Int32} {rm : Nat → Nat → Int32}
theorem m_pj (S : mX p m c cc nL s args Ts D cI cZ cB cO cR cJ lv) (hG : gW D Hb lv ad (mJ ce0 ad cI cZ sm rm) H) (hL : gL Hb locs) {index : Nat} (f : Nat) (hf : mIs f = true) (hlink : (Cond.fieldLink RX10 index RX10 (TX10 f).2.1 (TX10 f).2.2.1).before args s = true) (hdg : decode cc pc = .ok (.putfield index, 3)) {v : Int32} (hs : upd sm f v = sm2)
    (kk : ∀ (H1 : Heap) (locs1 : List Loc), gW D Hb lv ad (mJ ce0 ad cI cZ sm2 rm) H1 → gL Hb locs1 → W p l e R s m args below meth c H1 locs1 cells slots Q (F0 m (pc + 3) ls rest)) : W p l e R s m args below meth c H locs cells slots Q (F0 m pc ls (.int v :: .ref (ad 0) :: rest)) :=
  m_pi S hG hL f hf hlink hdg (by rw [hs]; exact kk)
theorem mW_id (k : Nat) (hG : gW D Hb lv ad (mJ ce0 ad cI cZ sm rm) H) : gW D Hb lv ad (mJ ce0 ad cI cZ (upd sm k (sm k)) rm) H := by rw [upd_id]; exact hG
end MRY
def tE (s : Nat → Int32) : Nat := (s 62).toNatClampNeg
def tB (s : Nat → Int32) : Prop := 0 ≤ (s 62).toInt ∧ (s 62).toInt ≤ 400 ∧ 0 ≤ (s 63).toInt ∧ (s 63).toInt ≤ (s 62).toInt
def skp (t : Nat → Int32) (e : Nat) : Nat → Nat → Nat
  | 0, i => i
  | n + 1, i => if e ≤ i then i else if t i = 32 then skp t e n (i + 1) else i
theorem skp_le (t : Nat → Int32) (e : Nat) : ∀ n i, i ≤ skp t e n i ∧ (i ≤ e → skp t e n i ≤ e)
  | 0, i => ⟨Nat.le_refl _, fun h => h⟩
  | n + 1, i => by
    have ih := skp_le t e n (i + 1)
    unfold skp
    split
    · exact ⟨Nat.le_refl _, fun h => h⟩
    · split
      · exact ⟨by omega, fun h => ih.2 (by omega)⟩
      · exact ⟨Nat.le_refl _, fun h => h⟩
def wen (t : Nat → Int32) (e : Nat) : Nat → Nat → Nat
  | 0, i => i
  | n + 1, i => if e ≤ i then i else if fLe (t i) = 0 then i else wen t e n (i + 1)
theorem wen_le (t : Nat → Int32) (e : Nat) : ∀ n i, i ≤ wen t e n i ∧ (i ≤ e → wen t e n i ≤ e)
  | 0, i => ⟨Nat.le_refl _, fun h => h⟩
  | n + 1, i => by
    have ih := wen_le t e n (i + 1)
    unfold wen
    split
    · exact ⟨Nat.le_refl _, fun h => h⟩
    · split
      · exact ⟨Nat.le_refl _, fun h => h⟩
      · exact ⟨by omega, fun h => ih.2 (by omega)⟩
def aSg (s : Nat → Int32) (r : Nat → Nat → Int32) : Nat := skp (r 60) (tE s) (1 + tE s) (s 63).toNatClampNeg
def vSg (s : Nat → Int32) (r : Nat → Nat → Int32) : Int32 := if tE s ≤ aSg s r then -1 else r 60 (aSg s r)
def sSg (s : Nat → Int32) (r : Nat → Nat → Int32) : Nat → Int32 := upd s 63 (nI (aSg s r))
def aWe (s : Nat → Int32) (r : Nat → Nat → Int32) : Nat := wen (r 60) (tE s) (1 + tE s) (s 63).toNatClampNeg
theorem tB_e {s : Nat → Int32} (h : tB s) : tE s ≤ 400 ∧ (s 63).toNatClampNeg ≤ tE s := by
  obtain ⟨a, b, c, d⟩ := h
  have e1 := t_ix a
  have e2 := t_ix c
  unfold tE
  omega
theorem aSg_le {s : Nat → Int32} {r : Nat → Nat → Int32} (h : tB s) : aSg s r ≤ tE s := (skp_le _ _ _ _).2 (tB_e h).2
theorem aWe_le {s : Nat → Int32} {r : Nat → Nat → Int32} (h : tB s) : aWe s r ≤ tE s ∧ (s 63).toNatClampNeg ≤ aWe s r := ⟨(wen_le _ _ _ _).2 (tB_e h).2, (wen_le _ _ _ _).1⟩
theorem tB_at {s : Nat → Int32} (h : tB s) {j : Nat} (hj : j ≤ tE s) : tB (upd s 63 (nI j)) := by
  have q := tB_e h
  obtain ⟨a, b, c, d⟩ := h
  have e1 := t_ix a
  unfold tE at hj q
  refine ⟨a, b, ?_, ?_⟩
  · show 0 ≤ (nI j).toInt
    rw [nI_toInt (by omega)]; omega
  · show (nI j).toInt ≤ (s 62).toInt
    rw [nI_toInt (by omega)]; omega
theorem tB_sg {s : Nat → Int32} {r : Nat → Nat → Int32} (h : tB s) : tB (sSg s r) := tB_at h (aSg_le h)
theorem tE_at (s : Nat → Int32) (x : Int32) : tE (upd s 63 x) = tE s := rfl
theorem tB_ge {s : Nat → Int32} (h : tB s) {j : Nat} (hj : j ≤ tE s) : s 62 ≤ nI j ↔ tE s ≤ j := by
  have q := tB_e h
  obtain ⟨a, b, c, d⟩ := h
  have e1 := t_ix a
  unfold tE at hj q ⊢
  rw [t_le, nI_toInt (by omega)]
  omega
set_option maxHeartbeats 4000000 in
set_option maxRecDepth 100000 in
theorem c_X10_sign {l : Launch} {D : va_G} {cI cZ cB cO cR cJ : ClassId} {Hb : Heap} {lv : Nat → Prop} {ad : Nat → Nat} {ce0 : Nat → va_E} (hlv : lM lv)  (s : Nat → Int32) (r : Nat → Nat → Int32) (hB : tB s) : mMet l D cI cZ cB cO cR cJ Hb lv ad ce0 yX10_sign wsX10_sign 0 0 [.ref (ad 0)] s r (some (.int (vSg s r))) (sSg s r) r := by
  refine Met.ofW (cc := cX10_sign) (maxL := 1) (ret := (some .int)) (by decide) rfl ?_
  intro p0 e0 s0 m0 args below meth c0 s₁ B hml hv
  obtain ⟨rfl, hG, hK⟩ := hv
  have hx := B.exec
  have hb := B.bytes
  have hr := B.returns
  have hts := atoms_spec (ws := wsX10_sign) B.pre
  have hown : s0.vm.findClass RX10 = some m0.cls := findClass_of_methodNamed B.named
  have hlocks := B.notSynchronized
  have S : mX p0 m0 c0 cX10_sign 1 s0 _ wsX10_sign D cI cZ cB cO cR cJ lv := ⟨⟨hx, hb, hml, hown, hts⟩, hK, fun w h => List.mem_cons_of_mem _ (List.mem_append_right _ h), hlv⟩
  have hL : gL Hb [] := gL.nil
  have hl := lv_entry ([.ref (ad 0)]) (n := 1) (Nat.le_of_ble_eq_true rfl)
  rw [lg_entry_eq]
  generalize (lg_sl ([.ref (ad 0)]) ++ List.replicate (1 - (lg_sl ([.ref (ad 0)])).length) Slot.unset).toArray = ls at hl ⊢
  have hl : lv_has ls 1 [(0, .ref (ad 0))] := hl
  have LP : ∀ (n : Nat) (j : Nat) (x : Int32) (ex : x = nI j) (hj : j ≤ tE s) (hn : tE s + 1 ≤ j + n) (hF : skp (r 60) (tE s) n j = aSg s r), ∀ (H : Heap) (locs : List Loc), gW D Hb lv ad (mJ ce0 ad cI cZ (upd s 63 x) r) H → gL Hb locs → ∀ (ls : Array Slot), lv_has ls 1 [(0, .ref (ad 0))] → W p0 l e0 (headSpec wsX10_sign { frames := 0, cells := 0, slots := 0, locals := 0 }).room s0 m0 ([.ref (ad 0)] : List Value).toArray below meth c0 H locs 0 0 (MQ below (gQ D Hb lv ad (some (.int (vSg s r))) (mJ ce0 ad cI cZ (sSg s r) r)) ([.ref (ad 0)] : List Value).toArray s0 0 0 (gA Hb)) (F0 m0 0 ls []) := by
    intro n
    induction n with
    | zero => intro j x ex hj hn hF; exact absurd hn (by omega)
    | succ n ih =>
      intro j x ex hj hn hF H locs hG hL ls hl
      refine lv_aload_n hx hb dX10_sign_0 rfl (lv_at hl 0 rfl) ?_
      refine m_gi (v := x) S hG 63 rfl (hts (.fieldLink RX10 238 "SwarmLineModel" "at" "I") (by decide +kernel)) dX10_sign_1 rfl ?_
      refine lv_aload_n hx hb dX10_sign_4 rfl (lv_at hl 0 rfl) ?_
      refine m_gi (v := s 62) S hG 62 rfl (hts (.fieldLink RX10 241 "SwarmLineModel" "textEnd" "I") (by decide +kernel)) dX10_sign_5 rfl ?_
      refine lv_icmp_ge (tgt := 38) hx hb dX10_sign_8 (by decide) (fun c8 => ?_) (fun c8 => ?_)
      ·
        have h1 := (tB_ge hB hj).mp (ex ▸ c8); have q : aSg s r = j := by rw [← hF]; simp only [skp, eq_true h1, ↓reduceIte]
        refine lv_aload_n hx hb dX10_sign_38 rfl (lv_at hl 0 rfl) ?_
        refine m_gi (v := x) S hG 63 rfl (hts (.fieldLink RX10 238 "SwarmLineModel" "at" "I") (by decide +kernel)) dX10_sign_39 rfl ?_
        refine lv_aload_n hx hb dX10_sign_42 rfl (lv_at hl 0 rfl) ?_
        refine m_gi (v := s 62) S hG 62 rfl (hts (.fieldLink RX10 241 "SwarmLineModel" "textEnd" "I") (by decide +kernel)) dX10_sign_43 rfl ?_
        refine lv_icmp_ge (tgt := 61) hx hb dX10_sign_46 (by decide) (fun c46 => ?_) (fun c46 => absurd c46 (fun h => h c8))
        refine lv_iconst (v := (-1)) hx hb dX10_sign_61 (by decide) ?_
        exact m_iret S hr hlocks hG hL dX10_sign_62 (by simp only [vSg, q, eq_true h1, ↓reduceIte]) (by rw [sSg, q, ex]) (by rfl)
      ·
        refine lv_aload_n hx hb dX10_sign_11 rfl (lv_at hl 0 rfl) ?_
        refine m_ga S hG 60 rfl (hts (.fieldLink RX10 161 "SwarmLineModel" "tape" "[I") (by decide +kernel)) dX10_sign_12 ?_
        refine lv_aload_n hx hb dX10_sign_15 rfl (lv_at hl 0 rfl) ?_
        refine m_gi (v := x) S hG 63 rfl (hts (.fieldLink RX10 238 "SwarmLineModel" "at" "I") (by decide +kernel)) dX10_sign_16 rfl ?_
        refine m_ld (v := r 60 (Int32.toNatClampNeg x)) S hG 60 rfl (show vp_in x 400 from by rw [ex]; exact vp_in_i (by have h1 := (not_congr (tB_ge hB hj)).mp (ex ▸ c8); have := tB_e hB; omega) (by omega)) dX10_sign_19 (rfl) ?_
        refine lv_bipush (v := 32) hx hb dX10_sign_20 (by decide) ?_
        refine lv_icmp_ne (tgt := 38) hx hb dX10_sign_22 (by decide) (fun c22 => ?_) (fun c22 => ?_)
        ·
          have h1 := (not_congr (tB_ge hB hj)).mp (ex ▸ c8); have h2 := c22; rw [ex, ix_nI (by have := tB_e hB; omega)] at h2; have q : aSg s r = j := by rw [← hF]; simp only [skp, eq_false h1, eq_false h2, ↓reduceIte]
          refine lv_aload_n hx hb dX10_sign_38 rfl (lv_at hl 0 rfl) ?_
          refine m_gi (v := x) S hG 63 rfl (hts (.fieldLink RX10 238 "SwarmLineModel" "at" "I") (by decide +kernel)) dX10_sign_39 rfl ?_
          refine lv_aload_n hx hb dX10_sign_42 rfl (lv_at hl 0 rfl) ?_
          refine m_gi (v := s 62) S hG 62 rfl (hts (.fieldLink RX10 241 "SwarmLineModel" "textEnd" "I") (by decide +kernel)) dX10_sign_43 rfl ?_
          refine lv_icmp_ge (tgt := 61) hx hb dX10_sign_46 (by decide) (fun c46 => absurd c46 (c8)) (fun c46 => ?_)
          refine lv_aload_n hx hb dX10_sign_49 rfl (lv_at hl 0 rfl) ?_
          refine m_ga S hG 60 rfl (hts (.fieldLink RX10 161 "SwarmLineModel" "tape" "[I") (by decide +kernel)) dX10_sign_50 ?_
          refine lv_aload_n hx hb dX10_sign_53 rfl (lv_at hl 0 rfl) ?_
          refine m_gi (v := x) S hG 63 rfl (hts (.fieldLink RX10 238 "SwarmLineModel" "at" "I") (by decide +kernel)) dX10_sign_54 rfl ?_
          refine m_ld (v := r 60 (Int32.toNatClampNeg x)) S hG 60 rfl (show vp_in x 400 from by rw [ex]; exact vp_in_i (by have h1 := (not_congr (tB_ge hB hj)).mp (ex ▸ c8); have := tB_e hB; omega) (by omega)) dX10_sign_57 (rfl) ?_
          refine lv_goto (tgt := 62) hx hb dX10_sign_58 (by decide) ?_
          exact m_iret S hr hlocks hG hL dX10_sign_62 (by simp only [vSg, q, eq_false h1, ↓reduceIte, ex]; rw [ix_nI (by have := tB_e hB; omega)]) (by rw [sSg, q, ex]) (by rfl)
        ·
          refine lv_aload_n hx hb dX10_sign_25 rfl (lv_at hl 0 rfl) ?_
          refine lv_dup hx hb dX10_sign_26 rfl ?_
          refine m_gi (v := x) S hG 63 rfl (hts (.fieldLink RX10 238 "SwarmLineModel" "at" "I") (by decide +kernel)) dX10_sign_27 rfl ?_
          refine lv_iconst (v := 1) hx hb dX10_sign_30 (by decide) ?_
          refine lv_iadd hx hb dX10_sign_31 ?_
          refine m_pj (sm2 := (upd s 63 (x + 1))) S hG hL 63 rfl (hts (.fieldLink RX10 238 "SwarmLineModel" "at" "I") (by decide +kernel)) dX10_sign_32 (upd_tw ..) (fun H locs hG hL => ?_)
          refine lv_goto (tgt := 0) hx hb dX10_sign_35 (by decide) ?_
          exact ih  (j + 1) (x + 1) (by rw [ex]; exact nI_1 j) (by have := (not_congr (tB_ge hB hj)).mp (ex ▸ c8); omega) (by omega) (by rw [← hF]; have h1 := (not_congr (tB_ge hB hj)).mp (ex ▸ c8); have h2 := c22; rw [ex, ix_nI (by have := tB_e hB; omega)] at h2; simp only [skp, eq_false h1, eq_true h2, ↓reduceIte]) _ _ hG hL _ (lv_sub hl [0] rfl)
  have hG := mW_id 63 hG
  exact LP (1 + tE s) (Int32.toNatClampNeg (s 63)) (s 63) ((t_ixn hB.2.2.1).symm) ((tB_e hB).2) (by have := tB_e hB; omega) (rfl) _ _ hG hL _ (lv_sub hl [0] rfl)
set_option maxHeartbeats 4000000 in
set_option maxRecDepth 100000 in
theorem c_X10_wordEnd {l : Launch} {D : va_G} {cI cZ cB cO cR cJ : ClassId} {Hb : Heap} {lv : Nat → Prop} {ad : Nat → Nat} {ce0 : Nat → va_E} (hlv : lM lv)  (s : Nat → Int32) (r : Nat → Nat → Int32) (hB : tB s) : mMet l D cI cZ cB cO cR cJ Hb lv ad ce0 yX10_wordEnd wsX10_wordEnd 1 20 [.ref (ad 0)] s r (some (.int (nI (aWe s r)))) s r := by
  refine Met.ofW (cc := cX10_wordEnd) (maxL := 2) (ret := (some .int)) (by decide) rfl ?_
  intro p0 e0 s0 m0 args below meth c0 s₁ B hml hv
  obtain ⟨rfl, hG, hK⟩ := hv
  have hx := B.exec
  have hb := B.bytes
  have hr := B.returns
  have hts := atoms_spec (ws := wsX10_wordEnd) B.pre
  have hown : s0.vm.findClass RX10 = some m0.cls := findClass_of_methodNamed B.named
  have hlocks := B.notSynchronized
  have S : mX p0 m0 c0 cX10_wordEnd 2 s0 _ wsX10_wordEnd D cI cZ cB cO cR cJ lv := ⟨⟨hx, hb, hml, hown, hts⟩, hK, fun w h => List.mem_cons_of_mem _ (List.mem_append_right _ h), hlv⟩
  have hL : gL Hb [] := gL.nil
  have hl := lv_entry ([.ref (ad 0)]) (n := 2) (Nat.le_of_ble_eq_true rfl)
  rw [lg_entry_eq]
  generalize (lg_sl ([.ref (ad 0)]) ++ List.replicate (2 - (lg_sl ([.ref (ad 0)])).length) Slot.unset).toArray = ls at hl ⊢
  have hl : lv_has ls 2 [(0, .ref (ad 0))] := hl
  refine lv_aload_n hx hb dX10_wordEnd_0 rfl (lv_at hl 0 rfl) ?_
  refine m_gi (v := s 63) S hG 63 rfl (hts (.fieldLink RX10 238 "SwarmLineModel" "at" "I") (by decide +kernel)) dX10_wordEnd_1 rfl ?_
  refine lv_istore_n (lv' := [(1, .int (s 63)), (0, .ref (ad 0))]) hx hb dX10_wordEnd_4 rfl hl (by decide) rfl (fun ls hl => ?_)
  have LP : ∀ (n : Nat) (j : Nat) (x : Int32) (ex : x = nI j) (hj : j ≤ tE s) (hn : tE s + 1 ≤ j + n) (hF : wen (r 60) (tE s) n j = aWe s r), ∀ (H : Heap) (locs : List Loc), gW D Hb lv ad (mJ ce0 ad cI cZ s r) H → gL Hb locs → ∀ (ls : Array Slot), lv_has ls 2 [(0, .ref (ad 0)), (1, .int x)] → W p0 l e0 (headSpec wsX10_wordEnd { frames := 1, cells := 0, slots := 0, locals := 20 }).room s0 m0 ([.ref (ad 0)] : List Value).toArray below meth c0 H locs 0 0 (MQ below (gQ D Hb lv ad (some (.int (nI (aWe s r)))) (mJ ce0 ad cI cZ s r)) ([.ref (ad 0)] : List Value).toArray s0 0 0 (gA Hb)) (F0 m0 5 ls []) := by
    intro n
    induction n with
    | zero => intro j x ex hj hn hF; exact absurd hn (by omega)
    | succ n ih =>
      intro j x ex hj hn hF H locs hG hL ls hl
      refine lv_iload_n hx hb dX10_wordEnd_5 rfl (lv_at hl 1 rfl) ?_
      refine lv_aload_n hx hb dX10_wordEnd_6 rfl (lv_at hl 0 rfl) ?_
      refine m_gi (v := s 62) S hG 62 rfl (hts (.fieldLink RX10 241 "SwarmLineModel" "textEnd" "I") (by decide +kernel)) dX10_wordEnd_7 rfl ?_
      refine lv_icmp_ge (tgt := 31) hx hb dX10_wordEnd_10 (by decide) (fun c10 => ?_) (fun c10 => ?_)
      ·
        refine lv_iload_n hx hb dX10_wordEnd_31 rfl (lv_at hl 1 rfl) ?_
        exact m_iret S hr hlocks hG hL dX10_wordEnd_32 (by have h1 := (tB_ge hB hj).mp (ex ▸ c10); rw [← hF, ex]; simp only [wen, eq_true h1, ↓reduceIte]) (by rfl) (by rfl)
      ·
        refine lv_aload_n hx hb dX10_wordEnd_13 rfl (lv_at hl 0 rfl) ?_
        refine m_ga S hG 60 rfl (hts (.fieldLink RX10 161 "SwarmLineModel" "tape" "[I") (by decide +kernel)) dX10_wordEnd_14 ?_
        refine lv_iload_n hx hb dX10_wordEnd_17 rfl (lv_at hl 1 rfl) ?_
        refine m_ld (v := r 60 (Int32.toNatClampNeg x)) S hG 60 rfl (show vp_in x 400 from by rw [ex]; exact vp_in_i (by have h1 := (not_congr (tB_ge hB hj)).mp (ex ▸ c10); have := tB_e hB; omega) (by omega)) dX10_wordEnd_18 (rfl) ?_
        refine m_callP (n := 1) (As := [.int (r 60 (Int32.toNatClampNeg x))]) (rest := []) (st1 := .int (fLe (r 60 (Int32.toNatClampNeg x))) :: []) S.1 (c_X10_isLetter (r 60 (Int32.toNatClampNeg x))) gX10_wordEnd_X10_isLetter rfl (by decide +kernel) ⟨Nat.le_of_ble_eq_true rfl, Nat.le_of_ble_eq_true rfl⟩ rfl hl.1 rfl (Nat.le_of_ble_eq_true rfl) dX10_wordEnd_19 ⟨Nat.zero_le _, Nat.zero_le _⟩ rfl ?_
        refine lv_if_eq (tgt := 31) hx hb dX10_wordEnd_22 (by decide) (fun c22 => ?_) (fun c22 => ?_)
        ·
          refine lv_iload_n hx hb dX10_wordEnd_31 rfl (lv_at hl 1 rfl) ?_
          exact m_iret S hr hlocks hG hL dX10_wordEnd_32 (by have h1 := (not_congr (tB_ge hB hj)).mp (ex ▸ c10); have h2 := c22; rw [ex, ix_nI (by have := tB_e hB; omega)] at h2; rw [← hF, ex]; simp only [wen, eq_false h1, eq_true h2, ↓reduceIte]) (by rfl) (by rfl)
        ·
          refine lv_iinc (v := x + 1) (lv' := [(1, .int (x + 1)), (0, .ref (ad 0))]) hx hb dX10_wordEnd_25 hl (k := 1) rfl (by rfl) (by decide) rfl (fun ls hl => ?_)
          refine lv_goto (tgt := 5) hx hb dX10_wordEnd_28 (by decide) ?_
          exact ih  (j + 1) (x + 1) (by rw [ex]; exact nI_1 j) (by have := (not_congr (tB_ge hB hj)).mp (ex ▸ c10); omega) (by omega) (by rw [← hF]; have h1 := (not_congr (tB_ge hB hj)).mp (ex ▸ c10); have h2 := c22; rw [ex, ix_nI (by have := tB_e hB; omega)] at h2; simp only [wen, eq_false h1, eq_false h2, ↓reduceIte]) _ _ hG hL _ (lv_sub hl [1, 0] rfl)
  exact LP (1 + tE s) (Int32.toNatClampNeg (s 63)) (s 63) ((t_ixn hB.2.2.1).symm) ((tB_e hB).2) (by have := tB_e hB; omega) (rfl) _ _ hG hL _ (lv_sub hl [1, 0] rfl)
