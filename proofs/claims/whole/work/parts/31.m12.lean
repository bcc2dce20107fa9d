/-! a call -/
theorem sSg_n {f : Nat} (hf : ¬ f = 63) (s : Nat → Int32) (r : Nat → Nat → Int32) : sSg s r f = s f := by simp [sSg, upd, hf]
theorem sN_n {f : Nat} (hf : ¬ f = 63) (hf2 : ¬ f = 64) (lo hi : Int32) (s : Nat → Int32) (r : Nat → Nat → Int32) : sN lo hi s r f = s f := by
  unfold sN
  repeat' split
  all_goals simp [upd, hf, hf2, sSg_n hf]
theorem rdF_n {f : Nat} (hf : ¬ f = 63) (hf2 : ¬ f = 64) (s : Nat → Int32) (r : Nat → Nat → Int32) : (rdF s r).2.1 f = s f := by
  have e : s1F s r f = s f := by simp [s1F, upd, hf, sSg_n hf]
  unfold rdF wrX kfX plX nmX
  repeat' split
  all_goals dsimp only
  all_goals (repeat rw [sN_n hf hf2])
  all_goals first | exact e | simp [upd, hf2, sSg_n hf]
theorem rdC_n {f : Nat} (hf : ¬ f = 63) (hf2 : ¬ f = 64) : ∀ (n : Nat) (s : Nat → Int32) (r : Nat → Nat → Int32), (rdC n s r).2.1 f = s f
  | 0, s, r => rfl
  | n + 1, s, r => by
    have e := rdF_n hf hf2 s r
    unfold rdC
    split
    · exact e
    · split
      · rw [rdC_n hf hf2 n]; simp [upd, hf, sSg_n hf, e]
      · unfold fiX wrX
        repeat' split
        all_goals simp [upd, hf2, sSg_n hf, e]
def bT (s : Nat → Int32) : Nat → Int32 := upd (upd (upd (upd s 62 (s 61)) 61 0) 63 0) 64 (-1)
theorem bT_B {s : Nat → Int32} (h0 : 0 ≤ (s 61).toInt) (h1 : (s 61).toInt ≤ 400) (k : Int32) : tB (upd (bT s) 0 k) := ⟨h0, h1, (show 0 ≤ (0 : Int32).toInt by decide), h0⟩
theorem bT_B0 {s : Nat → Int32} (h0 : 0 ≤ (s 61).toInt) (h1 : (s 61).toInt ≤ 400) : tB (bT s) := ⟨h0, h1, (show 0 ≤ (0 : Int32).toInt by decide), h0⟩
def clV (s : Nat → Int32) (r : Nat → Nat → Int32) : Int32 := (rdX (upd (bT s) 0 0) r).1
def clS (s : Nat → Int32) (r : Nat → Nat → Int32) : Nat → Int32 := (rdX (upd (bT s) 0 0) r).2.1
def clR (s : Nat → Int32) (r : Nat → Nat → Int32) : Nat → Nat → Int32 := (rdX (upd (bT s) 0 0) r).2.2
theorem clS_n {f : Nat} (hf : ¬ f = 63) (hf2 : ¬ f = 64) (hf3 : ¬ f = 61) (hf4 : ¬ f = 62) (hf5 : ¬ f = 0) (s : Nat → Int32) (r : Nat → Nat → Int32) : clS s r f = s f := by
  unfold clS rdX
  rw [rdC_n hf hf2]
  simp [upd, bT, hf, hf2, hf3, hf4, hf5]
def caN (s : Nat → Int32) (r : Nat → Nat → Int32) : FX := (s 39, upd (upd s 40 (s 40 + 1)) 39 (s 39 + 1), up2 (up2 (up2 (up2 (up2 (up2 (up2 (up2 (up2 (up2 r 41 (Int32.toNatClampNeg (s 39)) 0) 42 (Int32.toNatClampNeg (s 39)) (r 65 (Int32.toNatClampNeg 0))) 43 (Int32.toNatClampNeg (s 39)) (r 65 (Int32.toNatClampNeg 1))) 44 (Int32.toNatClampNeg (s 39)) (if r 66 (Int32.toNatClampNeg 4) = 0 then 1 else 0)) 45 (Int32.toNatClampNeg (s 39)) 0) 46 (Int32.toNatClampNeg (s 39)) (-1)) 47 (Int32.toNatClampNeg (s 39)) 0) 48 (Int32.toNatClampNeg (s 39)) 0) 50 (Int32.toNatClampNeg (s 39)) (-1)) 51 (Int32.toNatClampNeg (s 39)) (-1))
def caO (c : Int32) (s : Nat → Int32) (r : Nat → Nat → Int32) : FX := (c, upd s 40 (s 40 + 1), if r 44 (Int32.toNatClampNeg c) = 0 then (if r 66 (Int32.toNatClampNeg 4) = 0 then up2 (up2 (up2 r 42 (Int32.toNatClampNeg c) (r 65 (Int32.toNatClampNeg 0))) 43 (Int32.toNatClampNeg c) (r 65 (Int32.toNatClampNeg 1))) 44 (Int32.toNatClampNeg c) 1 else r) else r)
def caB (c : Int32) (r : Nat → Nat → Int32) : Nat → Nat → Int32 := if r 65 (Int32.toNatClampNeg 2) ≤ r 45 (Int32.toNatClampNeg c) then r else up2 r 45 (Int32.toNatClampNeg c) (r 65 (Int32.toNatClampNeg 2))
def caC (c : Int32) (r : Nat → Nat → Int32) : Nat → Nat → Int32 := if r 65 (Int32.toNatClampNeg 3) = -1 then r else if r 46 (Int32.toNatClampNeg c) = -1 then up2 r 46 (Int32.toNatClampNeg c) (r 65 (Int32.toNatClampNeg 3)) else if r 46 (Int32.toNatClampNeg c) ≤ r 65 (Int32.toNatClampNeg 3) then r else up2 r 46 (Int32.toNatClampNeg c) (r 65 (Int32.toNatClampNeg 3))
def caD (c : Int32) (r : Nat → Nat → Int32) : Nat → Nat → Int32 := if r 47 (Int32.toNatClampNeg c) = 0 then up2 r 47 (Int32.toNatClampNeg c) (r 65 (Int32.toNatClampNeg 4)) else r
def caE (c : Int32) (s : Nat → Int32) (r : Nat → Nat → Int32) : Nat → Nat → Int32 := up2 (up2 r 48 (Int32.toNatClampNeg c) (r 48 (Int32.toNatClampNeg c) + 1)) 49 (Int32.toNatClampNeg c) (s 1)
def caZ (c : Int32) (s : Nat → Int32) (r : Nat → Nat → Int32) : FX := (c, s, caE c s (caD c (caC c (caB c r))))
def clX (s : Nat → Int32) (r : Nat → Nat → Int32) : FX := if clV s r = 0 then (0, upd (clS s r) 0 1, clR s r) else if (clS s r) 40 = 200 then (0, upd (clS s r) 0 2, clR s r) else if fMt (clS s r) (clR s r) = -1 then (if (clS s r) 39 = 60 then (0, upd (clS s r) 0 2, clR s r) else caZ (caN (clS s r) (clR s r)).1 (caN (clS s r) (clR s r)).2.1 (caN (clS s r) (clR s r)).2.2) else caZ (fMt (clS s r) (clR s r)) (caO (fMt (clS s r) (clR s r)) (clS s r) (clR s r)).2.1 (caO (fMt (clS s r) (clR s r)) (clS s r) (clR s r)).2.2
theorem fF_b (p : Nat → Bool) : ∀ n i, fF p n i = -1 ∨ ∃ j, i ≤ j ∧ j < i + n ∧ fF p n i = nI j ∧ p j = true
  | 0, i => Or.inl rfl
  | n + 1, i => by
    unfold fF
    split
    · exact Or.inr ⟨i, by omega, by omega, rfl, by assumption⟩
    · rcases fF_b p n (i + 1) with h | ⟨j, h1, h2, h3, h4⟩
      · exact Or.inl h
      · exact Or.inr ⟨j, by omega, by omega, h3, h4⟩
theorem fMt_in {s : Nat → Int32} {r : Nat → Nat → Int32} (h0 : 0 ≤ (s 39).toInt) (h1 : (s 39).toInt ≤ 60) (h : ¬ fMt s r = -1) : vp_in (fMt s r) 60 := by
  have b : (s 39).toNatClampNeg ≤ 60 := t_ixl h0 h1
  rcases fF_b (mtP s r) (s 39).toNatClampNeg 0 with q | ⟨j, -, h2, h3, -⟩
  · exact absurd q h
  · rw [show fMt s r = nI j from h3]; exact vp_in_i (by omega) (by omega)
set_option maxHeartbeats 4000000 in
set_option maxRecDepth 100000 in
theorem c_X10_call {l : Launch} {D : va_G} {cI cZ cB cO cR cJ : ClassId} {Hb : Heap} {lv : Nat → Prop} {ad : Nat → Nat} {ce0 : Nat → va_E} (hlv : lM lv)  (s : Nat → Int32) (r : Nat → Nat → Int32) (h0 : 0 ≤ (s 61).toInt) (h1 : (s 61).toInt ≤ 400) (h2 : 0 ≤ (s 39).toInt) (h3 : (s 39).toInt ≤ 60) : mMet l D cI cZ cB cO cR cJ Hb lv ad ce0 yX10_call wsX10_call 6 130 [.ref (ad 0)] s r (some (.int ((clX s r).1))) ((clX s r).2.1) ((clX s r).2.2) := by
  refine Met.ofW (cc := cX10_call) (maxL := 2) (ret := (some .int)) (by decide) rfl ?_
  intro p0 e0 s0 m0 args below meth c0 s₁ B hml hv
  obtain ⟨rfl, hG, hK⟩ := hv
  have hx := B.exec
  have hb := B.bytes
  have hr := B.returns
  have hts := atoms_spec (ws := wsX10_call) B.pre
  have hown : s0.vm.findClass RX10 = some m0.cls := findClass_of_methodNamed B.named
  have hlocks := B.notSynchronized
  have S : mX p0 m0 c0 cX10_call 2 s0 _ wsX10_call D cI cZ cB cO cR cJ lv := ⟨⟨hx, hb, hml, hown, hts⟩, hK, fun w h => List.mem_cons_of_mem _ (List.mem_append_right _ h), hlv⟩
  have hL : gL Hb [] := gL.nil
  have hl := lv_entry ([.ref (ad 0)]) (n := 2) (Nat.le_of_ble_eq_true rfl)
  rw [lg_entry_eq]
  generalize (lg_sl ([.ref (ad 0)]) ++ List.replicate (2 - (lg_sl ([.ref (ad 0)])).length) Slot.unset).toArray = ls at hl ⊢
  have hl : lv_has ls 2 [(0, .ref (ad 0))] := hl
  have e39 : (clS s r) 39 = s 39 := clS_n (by decide) (by decide) (by decide) (by decide) (by decide) ..
  have g0 : 0 ≤ ((clS s r) 39).toInt := by rw [e39]; exact h2
  have g1 : ((clS s r) 39).toInt ≤ 60 := by rw [e39]; exact h3
  refine lv_aload_n hx hb dX10_call_0 rfl (lv_at hl 0 rfl) ?_
  refine m_callV (n := 0) (As := []) (rest := []) (st1 := []) S hG hL (c_X10_beginText hlv  s r ) gX10_call_X10_beginText rfl (by decide +kernel) ⟨Nat.le_of_ble_eq_true rfl, Nat.le_of_ble_eq_true rfl⟩ rfl hl.1 rfl (Nat.le_of_ble_eq_true rfl) dX10_call_1 ⟨Nat.zero_le _, Nat.zero_le _⟩ (rfl) (fun H locs hG hL => ?_)
  have hG : gW D Hb lv ad (mJ ce0 ad cI cZ (bT s) r) H := hG
  refine lv_aload_n hx hb dX10_call_4 rfl (lv_at hl 0 rfl) ?_
  refine lv_iconst (v := 0) hx hb dX10_call_5 (by decide) ?_
  refine m_pi S hG hL 0 rfl (hts (.fieldLink RX10 180 "SwarmLineModel" "thrown" "I") (by decide +kernel)) dX10_call_6 (fun H locs hG hL => ?_)
  refine lv_aload_n hx hb dX10_call_9 rfl (lv_at hl 0 rfl) ?_
  refine m_callV (n := 0) (As := []) (rest := []) (st1 := .int (clV s r) :: []) S hG hL (c_X10_readCall hlv  (upd (bT s) 0 0) r (bT_B h0 h1 0)) gX10_call_X10_readCall rfl (by decide +kernel) ⟨Nat.le_of_ble_eq_true rfl, Nat.le_of_ble_eq_true rfl⟩ rfl hl.1 rfl (Nat.le_of_ble_eq_true rfl) dX10_call_10 ⟨Nat.zero_le _, Nat.zero_le _⟩ (rfl) (fun H locs hG hL => ?_)
  have hG : gW D Hb lv ad (mJ ce0 ad cI cZ (clS s r) (clR s r)) H := hG
  refine lv_if_ne (tgt := 23) hx hb dX10_call_13 (by decide) (fun c13 => ?_) (fun c13 => ?_)
  ·
    refine lv_aload_n hx hb dX10_call_23 rfl (lv_at hl 0 rfl) ?_
    refine m_callV (n := 0) (As := []) (rest := []) (st1 := .int (fMt (clS s r) (clR s r)) :: []) S hG hL (c_X10_matching hlv  (clS s r) (clR s r) (g0) (g1)) gX10_call_X10_matching rfl (by decide +kernel) ⟨Nat.le_of_ble_eq_true rfl, Nat.le_of_ble_eq_true rfl⟩ rfl hl.1 rfl (Nat.le_of_ble_eq_true rfl) dX10_call_24 ⟨Nat.zero_le _, Nat.zero_le _⟩ (rfl) (fun H locs hG hL => ?_)
    refine lv_istore_n (lv' := [(1, .int (fMt (clS s r) (clR s r))), (0, .ref (ad 0))]) hx hb dX10_call_27 rfl hl (by decide) rfl (fun ls hl => ?_)
    have LA : ∀ (cv : Int32) (sv : Nat → Int32) (rv : Nat → Nat → Int32) (hc : vp_in cv 60) (hX : clX s r = caZ cv sv rv), ∀ (H : Heap) (locs : List Loc), gW D Hb lv ad (mJ ce0 ad cI cZ sv rv) H → gL Hb locs → ∀ (ls : Array Slot), lv_has ls 2 [(0, .ref (ad 0)), (1, .int cv)] → W p0 l e0 (headSpec wsX10_call { frames := 6, cells := 0, slots := 0, locals := 130 }).room s0 m0 ([.ref (ad 0)] : List Value).toArray below meth c0 H locs 0 0 (MQ below (gQ D Hb lv ad (some (.int ((clX s r).1))) (mJ ce0 ad cI cZ ((clX s r).2.1) ((clX s r).2.2))) ([.ref (ad 0)] : List Value).toArray s0 0 0 (gA Hb)) (F0 m0 234 ls []) := by
      intro cv sv rv hc hX H locs hG hL ls hl
      have LB : ∀ (rB : Nat → Nat → Int32) (hB : rB = caB cv rv), ∀ (H : Heap) (locs : List Loc), gW D Hb lv ad (mJ ce0 ad cI cZ sv rB) H → gL Hb locs → ∀ (ls : Array Slot), lv_has ls 2 [(0, .ref (ad 0)), (1, .int cv)] → W p0 l e0 (headSpec wsX10_call { frames := 6, cells := 0, slots := 0, locals := 130 }).room s0 m0 ([.ref (ad 0)] : List Value).toArray below meth c0 H locs 0 0 (MQ below (gQ D Hb lv ad (some (.int ((clX s r).1))) (mJ ce0 ad cI cZ ((clX s r).2.1) ((clX s r).2.2))) ([.ref (ad 0)] : List Value).toArray s0 0 0 (gA Hb)) (F0 m0 261 ls []) := by
        intro rB hB H locs hG hL ls hl
        have LC : ∀ (rC : Nat → Nat → Int32) (hC : rC = caC cv rB), ∀ (H : Heap) (locs : List Loc), gW D Hb lv ad (mJ ce0 ad cI cZ sv rC) H → gL Hb locs → ∀ (ls : Array Slot), lv_has ls 2 [(0, .ref (ad 0)), (1, .int cv)] → W p0 l e0 (headSpec wsX10_call { frames := 6, cells := 0, slots := 0, locals := 130 }).room s0 m0 ([.ref (ad 0)] : List Value).toArray below meth c0 H locs 0 0 (MQ below (gQ D Hb lv ad (some (.int ((clX s r).1))) (mJ ce0 ad cI cZ ((clX s r).2.1) ((clX s r).2.2))) ([.ref (ad 0)] : List Value).toArray s0 0 0 (gA Hb)) (F0 m0 308 ls []) := by
          intro rC hC H locs hG hL ls hl
          have LD : ∀ (rD : Nat → Nat → Int32) (hD : rD = caD cv rC), ∀ (H : Heap) (locs : List Loc), gW D Hb lv ad (mJ ce0 ad cI cZ sv rD) H → gL Hb locs → ∀ (ls : Array Slot), lv_has ls 2 [(0, .ref (ad 0)), (1, .int cv)] → W p0 l e0 (headSpec wsX10_call { frames := 6, cells := 0, slots := 0, locals := 130 }).room s0 m0 ([.ref (ad 0)] : List Value).toArray below meth c0 H locs 0 0 (MQ below (gQ D Hb lv ad (some (.int ((clX s r).1))) (mJ ce0 ad cI cZ ((clX s r).2.1) ((clX s r).2.2))) ([.ref (ad 0)] : List Value).toArray s0 0 0 (gA Hb)) (F0 m0 329 ls []) := by
            intro rD hD H locs hG hL ls hl
            refine lv_aload_n hx hb dX10_call_329 rfl (lv_at hl 0 rfl) ?_
            refine m_ga S hG 48 rfl (hts (.fieldLink RX10 134 "SwarmLineModel" "caseCalls" "[I") (by decide +kernel)) dX10_call_330 ?_
            refine lv_iload_n hx hb dX10_call_333 rfl (lv_at hl 1 rfl) ?_
            refine lv_dup2_11 hx hb dX10_call_334 rfl rfl ?_
            refine m_ld (v := rD 48 (Int32.toNatClampNeg cv)) S hG 48 rfl (show vp_in cv 60 from hc) dX10_call_335 (rfl) ?_
            refine lv_iconst (v := 1) hx hb dX10_call_336 (by decide) ?_
            refine lv_iadd hx hb dX10_call_337 ?_
            refine m_st S hG hL 48 rfl (show vp_in cv 60 from hc) dX10_call_338 (fun H locs hG hL => ?_)
            refine lv_aload_n hx hb dX10_call_339 rfl (lv_at hl 0 rfl) ?_
            refine m_ga S hG 49 rfl (hts (.fieldLink RX10 137 "SwarmLineModel" "caseLatest" "[I") (by decide +kernel)) dX10_call_340 ?_
            refine lv_iload_n hx hb dX10_call_343 rfl (lv_at hl 1 rfl) ?_
            refine lv_aload_n hx hb dX10_call_344 rfl (lv_at hl 0 rfl) ?_
            refine m_gi (v := sv 1) S hG 1 rfl (hts (.fieldLink RX10 206 "SwarmLineModel" "now" "I") (by decide +kernel)) dX10_call_345 rfl ?_
            refine m_st S hG hL 49 rfl (show vp_in cv 60 from hc) dX10_call_348 (fun H locs hG hL => ?_)
            refine lv_iload_n hx hb dX10_call_349 rfl (lv_at hl 1 rfl) ?_
            exact m_iret S hr hlocks hG hL dX10_call_350 (by rw [hX]; rfl) (by rw [hX]; rfl) (by rw [hX]; show _ = caE cv sv (caD cv (caC cv (caB cv rv))); rw [← hB, ← hC, ← hD]; rfl)
          refine lv_aload_n hx hb dX10_call_308 rfl (lv_at hl 0 rfl) ?_
          refine m_ga S hG 47 rfl (hts (.fieldLink RX10 131 "SwarmLineModel" "caseMark" "[I") (by decide +kernel)) dX10_call_309 ?_
          refine lv_iload_n hx hb dX10_call_312 rfl (lv_at hl 1 rfl) ?_
          refine m_ld (v := rC 47 (Int32.toNatClampNeg cv)) S hG 47 rfl (show vp_in cv 60 from hc) dX10_call_313 (rfl) ?_
          refine lv_if_ne (tgt := 329) hx hb dX10_call_314 (by decide) (fun c314 => ?_) (fun c314 => ?_)
          ·
            exact LD  rC (by simp only [caD, eq_false c314, ↓reduceIte]) _ _ hG hL _ (lv_sub hl [0, 1] rfl)
          ·
            refine lv_aload_n hx hb dX10_call_317 rfl (lv_at hl 0 rfl) ?_
            refine m_ga S hG 47 rfl (hts (.fieldLink RX10 131 "SwarmLineModel" "caseMark" "[I") (by decide +kernel)) dX10_call_318 ?_
            refine lv_iload_n hx hb dX10_call_321 rfl (lv_at hl 1 rfl) ?_
            refine lv_aload_n hx hb dX10_call_322 rfl (lv_at hl 0 rfl) ?_
            refine m_ga S hG 65 rfl (hts (.fieldLink RX10 168 "SwarmLineModel" "fact" "[I") (by decide +kernel)) dX10_call_323 ?_
            refine lv_iconst (v := 4) hx hb dX10_call_326 (by decide) ?_
            refine m_ld (v := rC 65 (Int32.toNatClampNeg 4)) S hG 65 rfl (show vp_in 4 6 from vp_in_t (by decide) (by decide)) dX10_call_327 (rfl) ?_
            refine m_st S hG hL 47 rfl (show vp_in cv 60 from hc) dX10_call_328 (fun H locs hG hL => ?_)
            exact LD  (up2 rC 47 (Int32.toNatClampNeg cv) (rC 65 (Int32.toNatClampNeg 4))) (by simp only [caD, eq_true c314, ↓reduceIte]) _ _ hG hL _ (lv_sub hl [0, 1] rfl)
        refine lv_aload_n hx hb dX10_call_261 rfl (lv_at hl 0 rfl) ?_
        refine m_ga S hG 65 rfl (hts (.fieldLink RX10 168 "SwarmLineModel" "fact" "[I") (by decide +kernel)) dX10_call_262 ?_
        refine lv_iconst (v := 3) hx hb dX10_call_265 (by decide) ?_
        refine m_ld (v := rB 65 (Int32.toNatClampNeg 3)) S hG 65 rfl (show vp_in 3 6 from vp_in_t (by decide) (by decide)) dX10_call_266 (rfl) ?_
        refine lv_iconst (v := (-1)) hx hb dX10_call_267 (by decide) ?_
        refine lv_icmp_eq (tgt := 308) hx hb dX10_call_268 (by decide) (fun c268 => ?_) (fun c268 => ?_)
        ·
          exact LC  rB (by simp only [caC, eq_true c268, ↓reduceIte]) _ _ hG hL _ (lv_sub hl [0, 1] rfl)
        ·
          refine lv_aload_n hx hb dX10_call_271 rfl (lv_at hl 0 rfl) ?_
          refine m_ga S hG 46 rfl (hts (.fieldLink RX10 128 "SwarmLineModel" "caseSince" "[I") (by decide +kernel)) dX10_call_272 ?_
          refine lv_iload_n hx hb dX10_call_275 rfl (lv_at hl 1 rfl) ?_
          refine m_ld (v := rB 46 (Int32.toNatClampNeg cv)) S hG 46 rfl (show vp_in cv 60 from hc) dX10_call_276 (rfl) ?_
          refine lv_iconst (v := (-1)) hx hb dX10_call_277 (by decide) ?_
          refine lv_icmp_eq (tgt := 296) hx hb dX10_call_278 (by decide) (fun c278 => ?_) (fun c278 => ?_)
          ·
            refine lv_aload_n hx hb dX10_call_296 rfl (lv_at hl 0 rfl) ?_
            refine m_ga S hG 46 rfl (hts (.fieldLink RX10 128 "SwarmLineModel" "caseSince" "[I") (by decide +kernel)) dX10_call_297 ?_
            refine lv_iload_n hx hb dX10_call_300 rfl (lv_at hl 1 rfl) ?_
            refine lv_aload_n hx hb dX10_call_301 rfl (lv_at hl 0 rfl) ?_
            refine m_ga S hG 65 rfl (hts (.fieldLink RX10 168 "SwarmLineModel" "fact" "[I") (by decide +kernel)) dX10_call_302 ?_
            refine lv_iconst (v := 3) hx hb dX10_call_305 (by decide) ?_
            refine m_ld (v := rB 65 (Int32.toNatClampNeg 3)) S hG 65 rfl (show vp_in 3 6 from vp_in_t (by decide) (by decide)) dX10_call_306 (rfl) ?_
            refine m_st S hG hL 46 rfl (show vp_in cv 60 from hc) dX10_call_307 (fun H locs hG hL => ?_)
            exact LC  (up2 rB 46 (Int32.toNatClampNeg cv) (rB 65 (Int32.toNatClampNeg 3))) (by simp only [caC, eq_false c268, eq_true c278, ↓reduceIte]) _ _ hG hL _ (lv_sub hl [0, 1] rfl)
          ·
            refine lv_aload_n hx hb dX10_call_281 rfl (lv_at hl 0 rfl) ?_
            refine m_ga S hG 65 rfl (hts (.fieldLink RX10 168 "SwarmLineModel" "fact" "[I") (by decide +kernel)) dX10_call_282 ?_
            refine lv_iconst (v := 3) hx hb dX10_call_285 (by decide) ?_
            refine m_ld (v := rB 65 (Int32.toNatClampNeg 3)) S hG 65 rfl (show vp_in 3 6 from vp_in_t (by decide) (by decide)) dX10_call_286 (rfl) ?_
            refine lv_aload_n hx hb dX10_call_287 rfl (lv_at hl 0 rfl) ?_
            refine m_ga S hG 46 rfl (hts (.fieldLink RX10 128 "SwarmLineModel" "caseSince" "[I") (by decide +kernel)) dX10_call_288 ?_
            refine lv_iload_n hx hb dX10_call_291 rfl (lv_at hl 1 rfl) ?_
            refine m_ld (v := rB 46 (Int32.toNatClampNeg cv)) S hG 46 rfl (show vp_in cv 60 from hc) dX10_call_292 (rfl) ?_
            refine lv_icmp_ge (tgt := 308) hx hb dX10_call_293 (by decide) (fun c293 => ?_) (fun c293 => ?_)
            ·
              exact LC  rB (by simp only [caC, eq_false c268, eq_false c278, eq_true c293, ↓reduceIte]) _ _ hG hL _ (lv_sub hl [0, 1] rfl)
            ·
              refine lv_aload_n hx hb dX10_call_296 rfl (lv_at hl 0 rfl) ?_
              refine m_ga S hG 46 rfl (hts (.fieldLink RX10 128 "SwarmLineModel" "caseSince" "[I") (by decide +kernel)) dX10_call_297 ?_
              refine lv_iload_n hx hb dX10_call_300 rfl (lv_at hl 1 rfl) ?_
              refine lv_aload_n hx hb dX10_call_301 rfl (lv_at hl 0 rfl) ?_
              refine m_ga S hG 65 rfl (hts (.fieldLink RX10 168 "SwarmLineModel" "fact" "[I") (by decide +kernel)) dX10_call_302 ?_
              refine lv_iconst (v := 3) hx hb dX10_call_305 (by decide) ?_
              refine m_ld (v := rB 65 (Int32.toNatClampNeg 3)) S hG 65 rfl (show vp_in 3 6 from vp_in_t (by decide) (by decide)) dX10_call_306 (rfl) ?_
              refine m_st S hG hL 46 rfl (show vp_in cv 60 from hc) dX10_call_307 (fun H locs hG hL => ?_)
              exact LC  (up2 rB 46 (Int32.toNatClampNeg cv) (rB 65 (Int32.toNatClampNeg 3))) (by simp only [caC, eq_false c268, eq_false c278, eq_false c293, ↓reduceIte]) _ _ hG hL _ (lv_sub hl [0, 1] rfl)
      refine lv_aload_n hx hb dX10_call_234 rfl (lv_at hl 0 rfl) ?_
      refine m_ga S hG 65 rfl (hts (.fieldLink RX10 168 "SwarmLineModel" "fact" "[I") (by decide +kernel)) dX10_call_235 ?_
      refine lv_iconst (v := 2) hx hb dX10_call_238 (by decide) ?_
      refine m_ld (v := rv 65 (Int32.toNatClampNeg 2)) S hG 65 rfl (show vp_in 2 6 from vp_in_t (by decide) (by decide)) dX10_call_239 (rfl) ?_
      refine lv_aload_n hx hb dX10_call_240 rfl (lv_at hl 0 rfl) ?_
      refine m_ga S hG 45 rfl (hts (.fieldLink RX10 125 "SwarmLineModel" "caseHigh" "[I") (by decide +kernel)) dX10_call_241 ?_
      refine lv_iload_n hx hb dX10_call_244 rfl (lv_at hl 1 rfl) ?_
      refine m_ld (v := rv 45 (Int32.toNatClampNeg cv)) S hG 45 rfl (show vp_in cv 60 from hc) dX10_call_245 (rfl) ?_
      refine lv_icmp_le (tgt := 261) hx hb dX10_call_246 (by decide) (fun c246 => ?_) (fun c246 => ?_)
      ·
        exact LB  rv (by simp only [caB, eq_true c246, ↓reduceIte]) _ _ hG hL _ (lv_sub hl [0, 1] rfl)
      ·
        refine lv_aload_n hx hb dX10_call_249 rfl (lv_at hl 0 rfl) ?_
        refine m_ga S hG 45 rfl (hts (.fieldLink RX10 125 "SwarmLineModel" "caseHigh" "[I") (by decide +kernel)) dX10_call_250 ?_
        refine lv_iload_n hx hb dX10_call_253 rfl (lv_at hl 1 rfl) ?_
        refine lv_aload_n hx hb dX10_call_254 rfl (lv_at hl 0 rfl) ?_
        refine m_ga S hG 65 rfl (hts (.fieldLink RX10 168 "SwarmLineModel" "fact" "[I") (by decide +kernel)) dX10_call_255 ?_
        refine lv_iconst (v := 2) hx hb dX10_call_258 (by decide) ?_
        refine m_ld (v := rv 65 (Int32.toNatClampNeg 2)) S hG 65 rfl (show vp_in 2 6 from vp_in_t (by decide) (by decide)) dX10_call_259 (rfl) ?_
        refine m_st S hG hL 45 rfl (show vp_in cv 60 from hc) dX10_call_260 (fun H locs hG hL => ?_)
        exact LB  (up2 rv 45 (Int32.toNatClampNeg cv) (rv 65 (Int32.toNatClampNeg 2))) (by simp only [caB, eq_false c246, ↓reduceIte]) _ _ hG hL _ (lv_sub hl [0, 1] rfl)
    refine lv_aload_n hx hb dX10_call_28 rfl (lv_at hl 1 rfl) ?_
    refine m_gi (v := (clS s r) 40) S hG 40 rfl (hts (.fieldLink RX10 293 "SwarmLineModel" "calls" "I") (by decide +kernel)) dX10_call_29 rfl ?_
    refine lv_sipush (v := 200) hx hb dX10_call_32 (by decide) ?_
    refine lv_icmp_eq (tgt := 52) hx hb dX10_call_35 (by decide) (fun c35 => ?_) (fun c35 => ?_)
    ·
      refine lv_aload_n hx hb dX10_call_52 rfl (lv_at hl 1 rfl) ?_
      refine lv_iconst (v := 2) hx hb dX10_call_53 (by decide) ?_
      refine m_pi S hG hL 0 rfl (hts (.fieldLink RX10 180 "SwarmLineModel" "thrown" "I") (by decide +kernel)) dX10_call_54 (fun H locs hG hL => ?_)
      refine lv_iconst (v := 0) hx hb dX10_call_57 (by decide) ?_
      exact m_iret S hr hlocks hG hL dX10_call_58 (by simp only [clX, eq_false c13, eq_true c35, ↓reduceIte]) (by simp only [clX, eq_false c13, eq_true c35, ↓reduceIte]) (by simp only [clX, eq_false c13, eq_true c35, ↓reduceIte])
    ·
      refine lv_iload_n hx hb dX10_call_38 rfl (lv_at hl 0 rfl) ?_
      refine lv_iconst (v := (-1)) hx hb dX10_call_39 (by decide) ?_
      refine lv_icmp_ne (tgt := 59) hx hb dX10_call_40 (by decide) (fun c40 => ?_) (fun c40 => ?_)
      ·
        refine lv_aload_n hx hb dX10_call_59 rfl (lv_at hl 1 rfl) ?_
        refine lv_dup hx hb dX10_call_60 rfl ?_
        refine m_gi (v := (clS s r) 40) S hG 40 rfl (hts (.fieldLink RX10 293 "SwarmLineModel" "calls" "I") (by decide +kernel)) dX10_call_61 rfl ?_
        refine lv_iconst (v := 1) hx hb dX10_call_64 (by decide) ?_
        refine lv_iadd hx hb dX10_call_65 ?_
        refine m_pi S hG hL 40 rfl (hts (.fieldLink RX10 293 "SwarmLineModel" "calls" "I") (by decide +kernel)) dX10_call_66 (fun H locs hG hL => ?_)
        refine lv_iload_n hx hb dX10_call_69 rfl (lv_at hl 0 rfl) ?_
        refine lv_iconst (v := (-1)) hx hb dX10_call_70 (by decide) ?_
        refine lv_icmp_ne (tgt := 185) hx hb dX10_call_71 (by decide) (fun c71 => ?_) (fun c71 => absurd c71 (c40))
        refine lv_aload_n hx hb dX10_call_185 rfl (lv_at hl 1 rfl) ?_
        refine m_ga S hG 44 rfl (hts (.fieldLink RX10 121 "SwarmLineModel" "caseSure" "[Z") (by decide +kernel)) dX10_call_186 ?_
        refine lv_iload_n hx hb dX10_call_189 rfl (lv_at hl 0 rfl) ?_
        refine m_zld (v := (clR s r) 44 (Int32.toNatClampNeg (fMt (clS s r) (clR s r)))) S hG 44 rfl (show vp_in (fMt (clS s r) (clR s r)) 60 from fMt_in g0 g1 c40) dX10_call_190 (rfl) ?_
        refine lv_if_ne (tgt := 234) hx hb dX10_call_191 (by decide) (fun c191 => ?_) (fun c191 => ?_)
        ·
          exact LA  (fMt (clS s r) (clR s r)) (upd (clS s r) 40 (((clS s r) 40) + 1)) (clR s r) (fMt_in g0 g1 c40) (by simp only [clX, caN, caO, eq_false c13, eq_false c35, eq_false c40, eq_false c71, eq_false c191, ↓reduceIte]) _ _ hG hL _ (lv_sub hl [1, 0] rfl)
        ·
          refine lv_aload_n hx hb dX10_call_194 rfl (lv_at hl 1 rfl) ?_
          refine m_ga S hG 66 rfl (hts (.fieldLink RX10 171 "SwarmLineModel" "has" "[Z") (by decide +kernel)) dX10_call_195 ?_
          refine lv_iconst (v := 4) hx hb dX10_call_198 (by decide) ?_
          refine m_zld (v := (clR s r) 66 (Int32.toNatClampNeg 4)) S hG 66 rfl (show vp_in 4 5 from vp_in_t (by decide) (by decide)) dX10_call_199 (rfl) ?_
          refine lv_if_ne (tgt := 234) hx hb dX10_call_200 (by decide) (fun c200 => ?_) (fun c200 => ?_)
          ·
            exact LA  (fMt (clS s r) (clR s r)) (upd (clS s r) 40 (((clS s r) 40) + 1)) (clR s r) (fMt_in g0 g1 c40) (by simp only [clX, caN, caO, eq_false c13, eq_false c35, eq_false c40, eq_false c71, eq_true c191, eq_false c200, ↓reduceIte]) _ _ hG hL _ (lv_sub hl [1, 0] rfl)
          ·
            refine lv_aload_n hx hb dX10_call_203 rfl (lv_at hl 1 rfl) ?_
            refine m_ga S hG 42 rfl (hts (.fieldLink RX10 115 "SwarmLineModel" "caseX" "[I") (by decide +kernel)) dX10_call_204 ?_
            refine lv_iload_n hx hb dX10_call_207 rfl (lv_at hl 0 rfl) ?_
            refine lv_aload_n hx hb dX10_call_208 rfl (lv_at hl 1 rfl) ?_
            refine m_ga S hG 65 rfl (hts (.fieldLink RX10 168 "SwarmLineModel" "fact" "[I") (by decide +kernel)) dX10_call_209 ?_
            refine lv_iconst (v := 0) hx hb dX10_call_212 (by decide) ?_
            refine m_ld (v := (clR s r) 65 (Int32.toNatClampNeg 0)) S hG 65 rfl (show vp_in 0 6 from vp_in_t (by decide) (by decide)) dX10_call_213 (rfl) ?_
            refine m_st S hG hL 42 rfl (show vp_in (fMt (clS s r) (clR s r)) 60 from fMt_in g0 g1 c40) dX10_call_214 (fun H locs hG hL => ?_)
            refine lv_aload_n hx hb dX10_call_215 rfl (lv_at hl 1 rfl) ?_
            refine m_ga S hG 43 rfl (hts (.fieldLink RX10 118 "SwarmLineModel" "caseY" "[I") (by decide +kernel)) dX10_call_216 ?_
            refine lv_iload_n hx hb dX10_call_219 rfl (lv_at hl 0 rfl) ?_
            refine lv_aload_n hx hb dX10_call_220 rfl (lv_at hl 1 rfl) ?_
            refine m_ga S hG 65 rfl (hts (.fieldLink RX10 168 "SwarmLineModel" "fact" "[I") (by decide +kernel)) dX10_call_221 ?_
            refine lv_iconst (v := 1) hx hb dX10_call_224 (by decide) ?_
            refine m_ld (v := (clR s r) 65 (Int32.toNatClampNeg 1)) S hG 65 rfl (show vp_in 1 6 from vp_in_t (by decide) (by decide)) dX10_call_225 ((up2_n _ _ _ _ (by decide)).trans (rfl)) ?_
            refine m_st S hG hL 43 rfl (show vp_in (fMt (clS s r) (clR s r)) 60 from fMt_in g0 g1 c40) dX10_call_226 (fun H locs hG hL => ?_)
            refine lv_aload_n hx hb dX10_call_227 rfl (lv_at hl 1 rfl) ?_
            refine m_ga S hG 44 rfl (hts (.fieldLink RX10 121 "SwarmLineModel" "caseSure" "[Z") (by decide +kernel)) dX10_call_228 ?_
            refine lv_iload_n hx hb dX10_call_231 rfl (lv_at hl 0 rfl) ?_
            refine lv_iconst (v := 1) hx hb dX10_call_232 (by decide) ?_
            refine m_zst S hG hL 44 rfl (by decide) (show vp_in (fMt (clS s r) (clR s r)) 60 from fMt_in g0 g1 c40) dX10_call_233 (fun H locs hG hL => ?_)
            exact LA  (fMt (clS s r) (clR s r)) (upd (clS s r) 40 (((clS s r) 40) + 1)) (up2 (up2 (up2 (clR s r) 42 (Int32.toNatClampNeg (fMt (clS s r) (clR s r))) ((clR s r) 65 (Int32.toNatClampNeg 0))) 43 (Int32.toNatClampNeg (fMt (clS s r) (clR s r))) ((clR s r) 65 (Int32.toNatClampNeg 1))) 44 (Int32.toNatClampNeg (fMt (clS s r) (clR s r))) 1) (fMt_in g0 g1 c40) (by simp only [clX, caN, caO, eq_false c13, eq_false c35, eq_false c40, eq_false c71, eq_true c191, eq_true c200, ↓reduceIte]) _ _ hG hL _ (lv_sub hl [1, 0] rfl)
      ·
        refine lv_aload_n hx hb dX10_call_43 rfl (lv_at hl 1 rfl) ?_
        refine m_gi (v := (clS s r) 39) S hG 39 rfl (hts (.fieldLink RX10 192 "SwarmLineModel" "cases" "I") (by decide +kernel)) dX10_call_44 rfl ?_
        refine lv_bipush (v := 60) hx hb dX10_call_47 (by decide) ?_
        refine lv_icmp_ne (tgt := 59) hx hb dX10_call_49 (by decide) (fun c49 => ?_) (fun c49 => ?_)
        ·
          refine lv_aload_n hx hb dX10_call_59 rfl (lv_at hl 1 rfl) ?_
          refine lv_dup hx hb dX10_call_60 rfl ?_
          refine m_gi (v := (clS s r) 40) S hG 40 rfl (hts (.fieldLink RX10 293 "SwarmLineModel" "calls" "I") (by decide +kernel)) dX10_call_61 rfl ?_
          refine lv_iconst (v := 1) hx hb dX10_call_64 (by decide) ?_
          refine lv_iadd hx hb dX10_call_65 ?_
          refine m_pi S hG hL 40 rfl (hts (.fieldLink RX10 293 "SwarmLineModel" "calls" "I") (by decide +kernel)) dX10_call_66 (fun H locs hG hL => ?_)
          refine lv_iload_n hx hb dX10_call_69 rfl (lv_at hl 0 rfl) ?_
          refine lv_iconst (v := (-1)) hx hb dX10_call_70 (by decide) ?_
          refine lv_icmp_ne (tgt := 185) hx hb dX10_call_71 (by decide) (fun c71 => absurd c71 (fun h => h c40)) (fun c71 => ?_)
          refine lv_aload_n hx hb dX10_call_74 rfl (lv_at hl 1 rfl) ?_
          refine m_gi (v := (clS s r) 39) S hG 39 rfl (hts (.fieldLink RX10 192 "SwarmLineModel" "cases" "I") (by decide +kernel)) dX10_call_75 rfl ?_
          refine lv_istore_n (lv' := [(1, .int ((clS s r) 39)), (0, .ref (ad 0))]) hx hb dX10_call_78 rfl hl (by decide) rfl (fun ls hl => ?_)
          refine lv_aload_n hx hb dX10_call_79 rfl (lv_at hl 1 rfl) ?_
          refine lv_dup hx hb dX10_call_80 rfl ?_
          refine m_gi (v := (clS s r) 39) S hG 39 rfl (hts (.fieldLink RX10 192 "SwarmLineModel" "cases" "I") (by decide +kernel)) dX10_call_81 rfl ?_
          refine lv_iconst (v := 1) hx hb dX10_call_84 (by decide) ?_
          refine lv_iadd hx hb dX10_call_85 ?_
          refine m_pi S hG hL 39 rfl (hts (.fieldLink RX10 192 "SwarmLineModel" "cases" "I") (by decide +kernel)) dX10_call_86 (fun H locs hG hL => ?_)
          refine lv_aload_n hx hb dX10_call_89 rfl (lv_at hl 1 rfl) ?_
          refine m_ga S hG 41 rfl (hts (.fieldLink RX10 112 "SwarmLineModel" "caseState" "[I") (by decide +kernel)) dX10_call_90 ?_
          refine lv_iload_n hx hb dX10_call_93 rfl (lv_at hl 0 rfl) ?_
          refine lv_iconst (v := 0) hx hb dX10_call_94 (by decide) ?_
          refine m_st S hG hL 41 rfl (show vp_in ((clS s r) 39) 60 from tq_ne rfl g0 g1 c49) dX10_call_95 (fun H locs hG hL => ?_)
          refine lv_aload_n hx hb dX10_call_96 rfl (lv_at hl 1 rfl) ?_
          refine m_ga S hG 42 rfl (hts (.fieldLink RX10 115 "SwarmLineModel" "caseX" "[I") (by decide +kernel)) dX10_call_97 ?_
          refine lv_iload_n hx hb dX10_call_100 rfl (lv_at hl 0 rfl) ?_
          refine lv_aload_n hx hb dX10_call_101 rfl (lv_at hl 1 rfl) ?_
          refine m_ga S hG 65 rfl (hts (.fieldLink RX10 168 "SwarmLineModel" "fact" "[I") (by decide +kernel)) dX10_call_102 ?_
          refine lv_iconst (v := 0) hx hb dX10_call_105 (by decide) ?_
          refine m_ld (v := (clR s r) 65 (Int32.toNatClampNeg 0)) S hG 65 rfl (show vp_in 0 6 from vp_in_t (by decide) (by decide)) dX10_call_106 ((up2_n _ _ _ _ (by decide)).trans (rfl)) ?_
          refine m_st S hG hL 42 rfl (show vp_in ((clS s r) 39) 60 from tq_ne rfl g0 g1 c49) dX10_call_107 (fun H locs hG hL => ?_)
          refine lv_aload_n hx hb dX10_call_108 rfl (lv_at hl 1 rfl) ?_
          refine m_ga S hG 43 rfl (hts (.fieldLink RX10 118 "SwarmLineModel" "caseY" "[I") (by decide +kernel)) dX10_call_109 ?_
          refine lv_iload_n hx hb dX10_call_112 rfl (lv_at hl 0 rfl) ?_
          refine lv_aload_n hx hb dX10_call_113 rfl (lv_at hl 1 rfl) ?_
          refine m_ga S hG 65 rfl (hts (.fieldLink RX10 168 "SwarmLineModel" "fact" "[I") (by decide +kernel)) dX10_call_114 ?_
          refine lv_iconst (v := 1) hx hb dX10_call_117 (by decide) ?_
          refine m_ld (v := (clR s r) 65 (Int32.toNatClampNeg 1)) S hG 65 rfl (show vp_in 1 6 from vp_in_t (by decide) (by decide)) dX10_call_118 ((up2_n _ _ _ _ (by decide)).trans ((up2_n _ _ _ _ (by decide)).trans (rfl))) ?_
          refine m_st S hG hL 43 rfl (show vp_in ((clS s r) 39) 60 from tq_ne rfl g0 g1 c49) dX10_call_119 (fun H locs hG hL => ?_)
          refine lv_aload_n hx hb dX10_call_120 rfl (lv_at hl 1 rfl) ?_
          refine m_ga S hG 44 rfl (hts (.fieldLink RX10 121 "SwarmLineModel" "caseSure" "[Z") (by decide +kernel)) dX10_call_121 ?_
          refine lv_iload_n hx hb dX10_call_124 rfl (lv_at hl 0 rfl) ?_
          refine lv_aload_n hx hb dX10_call_125 rfl (lv_at hl 1 rfl) ?_
          refine m_ga S hG 66 rfl (hts (.fieldLink RX10 171 "SwarmLineModel" "has" "[Z") (by decide +kernel)) dX10_call_126 ?_
          refine lv_iconst (v := 4) hx hb dX10_call_129 (by decide) ?_
          refine m_zld (v := (clR s r) 66 (Int32.toNatClampNeg 4)) S hG 66 rfl (show vp_in 4 5 from vp_in_t (by decide) (by decide)) dX10_call_130 ((up2_n _ _ _ _ (by decide)).trans ((up2_n _ _ _ _ (by decide)).trans ((up2_n _ _ _ _ (by decide)).trans (rfl)))) ?_
          refine lv_if_ne (tgt := 138) hx hb dX10_call_131 (by decide) (fun c131 => ?_) (fun c131 => ?_)
          ·
            refine lv_iconst (v := 0) hx hb dX10_call_138 (by decide) ?_
            refine m_zst S hG hL 44 rfl (by decide) (show vp_in ((clS s r) 39) 60 from tq_ne rfl g0 g1 c49) dX10_call_139 (fun H locs hG hL => ?_)
            refine lv_aload_n hx hb dX10_call_140 rfl (lv_at hl 1 rfl) ?_
            refine m_ga S hG 45 rfl (hts (.fieldLink RX10 125 "SwarmLineModel" "caseHigh" "[I") (by decide +kernel)) dX10_call_141 ?_
            refine lv_iload_n hx hb dX10_call_144 rfl (lv_at hl 0 rfl) ?_
            refine lv_iconst (v := 0) hx hb dX10_call_145 (by decide) ?_
            refine m_st S hG hL 45 rfl (show vp_in ((clS s r) 39) 60 from tq_ne rfl g0 g1 c49) dX10_call_146 (fun H locs hG hL => ?_)
            refine lv_aload_n hx hb dX10_call_147 rfl (lv_at hl 1 rfl) ?_
            refine m_ga S hG 46 rfl (hts (.fieldLink RX10 128 "SwarmLineModel" "caseSince" "[I") (by decide +kernel)) dX10_call_148 ?_
            refine lv_iload_n hx hb dX10_call_151 rfl (lv_at hl 0 rfl) ?_
            refine lv_iconst (v := (-1)) hx hb dX10_call_152 (by decide) ?_
            refine m_st S hG hL 46 rfl (show vp_in ((clS s r) 39) 60 from tq_ne rfl g0 g1 c49) dX10_call_153 (fun H locs hG hL => ?_)
            refine lv_aload_n hx hb dX10_call_154 rfl (lv_at hl 1 rfl) ?_
            refine m_ga S hG 47 rfl (hts (.fieldLink RX10 131 "SwarmLineModel" "caseMark" "[I") (by decide +kernel)) dX10_call_155 ?_
            refine lv_iload_n hx hb dX10_call_158 rfl (lv_at hl 0 rfl) ?_
            refine lv_iconst (v := 0) hx hb dX10_call_159 (by decide) ?_
            refine m_st S hG hL 47 rfl (show vp_in ((clS s r) 39) 60 from tq_ne rfl g0 g1 c49) dX10_call_160 (fun H locs hG hL => ?_)
            refine lv_aload_n hx hb dX10_call_161 rfl (lv_at hl 1 rfl) ?_
            refine m_ga S hG 48 rfl (hts (.fieldLink RX10 134 "SwarmLineModel" "caseCalls" "[I") (by decide +kernel)) dX10_call_162 ?_
            refine lv_iload_n hx hb dX10_call_165 rfl (lv_at hl 0 rfl) ?_
            refine lv_iconst (v := 0) hx hb dX10_call_166 (by decide) ?_
            refine m_st S hG hL 48 rfl (show vp_in ((clS s r) 39) 60 from tq_ne rfl g0 g1 c49) dX10_call_167 (fun H locs hG hL => ?_)
            refine lv_aload_n hx hb dX10_call_168 rfl (lv_at hl 1 rfl) ?_
            refine m_ga S hG 50 rfl (hts (.fieldLink RX10 140 "SwarmLineModel" "caseKeeper" "[I") (by decide +kernel)) dX10_call_169 ?_
            refine lv_iload_n hx hb dX10_call_172 rfl (lv_at hl 0 rfl) ?_
            refine lv_iconst (v := (-1)) hx hb dX10_call_173 (by decide) ?_
            refine m_st S hG hL 50 rfl (show vp_in ((clS s r) 39) 60 from tq_ne rfl g0 g1 c49) dX10_call_174 (fun H locs hG hL => ?_)
            refine lv_aload_n hx hb dX10_call_175 rfl (lv_at hl 1 rfl) ?_
            refine m_ga S hG 51 rfl (hts (.fieldLink RX10 143 "SwarmLineModel" "caseSwarm" "[I") (by decide +kernel)) dX10_call_176 ?_
            refine lv_iload_n hx hb dX10_call_179 rfl (lv_at hl 0 rfl) ?_
            refine lv_iconst (v := (-1)) hx hb dX10_call_180 (by decide) ?_
            refine m_st S hG hL 51 rfl (show vp_in ((clS s r) 39) 60 from tq_ne rfl g0 g1 c49) dX10_call_181 (fun H locs hG hL => ?_)
            refine lv_goto (tgt := 234) hx hb dX10_call_182 (by decide) ?_
            exact LA  ((clS s r) 39) (upd (upd (clS s r) 40 (((clS s r) 40) + 1)) 39 (((clS s r) 39) + 1)) (up2 (up2 (up2 (up2 (up2 (up2 (up2 (up2 (up2 (up2 (clR s r) 41 (Int32.toNatClampNeg ((clS s r) 39)) 0) 42 (Int32.toNatClampNeg ((clS s r) 39)) ((clR s r) 65 (Int32.toNatClampNeg 0))) 43 (Int32.toNatClampNeg ((clS s r) 39)) ((clR s r) 65 (Int32.toNatClampNeg 1))) 44 (Int32.toNatClampNeg ((clS s r) 39)) 0) 45 (Int32.toNatClampNeg ((clS s r) 39)) 0) 46 (Int32.toNatClampNeg ((clS s r) 39)) (-1)) 47 (Int32.toNatClampNeg ((clS s r) 39)) 0) 48 (Int32.toNatClampNeg ((clS s r) 39)) 0) 50 (Int32.toNatClampNeg ((clS s r) 39)) (-1)) 51 (Int32.toNatClampNeg ((clS s r) 39)) (-1)) (tq_ne rfl g0 g1 c49) (by simp only [clX, caN, caO, eq_false c13, eq_false c35, eq_true c40, eq_false c49, eq_true c71, eq_false c131, ↓reduceIte]) _ _ hG hL _ (lv_sub hl [1, 0] rfl)
          ·
            refine lv_iconst (v := 1) hx hb dX10_call_134 (by decide) ?_
            refine lv_goto (tgt := 139) hx hb dX10_call_135 (by decide) ?_
            refine m_zst S hG hL 44 rfl (by decide) (show vp_in ((clS s r) 39) 60 from tq_ne rfl g0 g1 c49) dX10_call_139 (fun H locs hG hL => ?_)
            refine lv_aload_n hx hb dX10_call_140 rfl (lv_at hl 1 rfl) ?_
            refine m_ga S hG 45 rfl (hts (.fieldLink RX10 125 "SwarmLineModel" "caseHigh" "[I") (by decide +kernel)) dX10_call_141 ?_
            refine lv_iload_n hx hb dX10_call_144 rfl (lv_at hl 0 rfl) ?_
            refine lv_iconst (v := 0) hx hb dX10_call_145 (by decide) ?_
            refine m_st S hG hL 45 rfl (show vp_in ((clS s r) 39) 60 from tq_ne rfl g0 g1 c49) dX10_call_146 (fun H locs hG hL => ?_)
            refine lv_aload_n hx hb dX10_call_147 rfl (lv_at hl 1 rfl) ?_
            refine m_ga S hG 46 rfl (hts (.fieldLink RX10 128 "SwarmLineModel" "caseSince" "[I") (by decide +kernel)) dX10_call_148 ?_
            refine lv_iload_n hx hb dX10_call_151 rfl (lv_at hl 0 rfl) ?_
            refine lv_iconst (v := (-1)) hx hb dX10_call_152 (by decide) ?_
            refine m_st S hG hL 46 rfl (show vp_in ((clS s r) 39) 60 from tq_ne rfl g0 g1 c49) dX10_call_153 (fun H locs hG hL => ?_)
            refine lv_aload_n hx hb dX10_call_154 rfl (lv_at hl 1 rfl) ?_
            refine m_ga S hG 47 rfl (hts (.fieldLink RX10 131 "SwarmLineModel" "caseMark" "[I") (by decide +kernel)) dX10_call_155 ?_
            refine lv_iload_n hx hb dX10_call_158 rfl (lv_at hl 0 rfl) ?_
            refine lv_iconst (v := 0) hx hb dX10_call_159 (by decide) ?_
            refine m_st S hG hL 47 rfl (show vp_in ((clS s r) 39) 60 from tq_ne rfl g0 g1 c49) dX10_call_160 (fun H locs hG hL => ?_)
            refine lv_aload_n hx hb dX10_call_161 rfl (lv_at hl 1 rfl) ?_
            refine m_ga S hG 48 rfl (hts (.fieldLink RX10 134 "SwarmLineModel" "caseCalls" "[I") (by decide +kernel)) dX10_call_162 ?_
            refine lv_iload_n hx hb dX10_call_165 rfl (lv_at hl 0 rfl) ?_
            refine lv_iconst (v := 0) hx hb dX10_call_166 (by decide) ?_
            refine m_st S hG hL 48 rfl (show vp_in ((clS s r) 39) 60 from tq_ne rfl g0 g1 c49) dX10_call_167 (fun H locs hG hL => ?_)
            refine lv_aload_n hx hb dX10_call_168 rfl (lv_at hl 1 rfl) ?_
            refine m_ga S hG 50 rfl (hts (.fieldLink RX10 140 "SwarmLineModel" "caseKeeper" "[I") (by decide +kernel)) dX10_call_169 ?_
            refine lv_iload_n hx hb dX10_call_172 rfl (lv_at hl 0 rfl) ?_
            refine lv_iconst (v := (-1)) hx hb dX10_call_173 (by decide) ?_
            refine m_st S hG hL 50 rfl (show vp_in ((clS s r) 39) 60 from tq_ne rfl g0 g1 c49) dX10_call_174 (fun H locs hG hL => ?_)
            refine lv_aload_n hx hb dX10_call_175 rfl (lv_at hl 1 rfl) ?_
            refine m_ga S hG 51 rfl (hts (.fieldLink RX10 143 "SwarmLineModel" "caseSwarm" "[I") (by decide +kernel)) dX10_call_176 ?_
            refine lv_iload_n hx hb dX10_call_179 rfl (lv_at hl 0 rfl) ?_
            refine lv_iconst (v := (-1)) hx hb dX10_call_180 (by decide) ?_
            refine m_st S hG hL 51 rfl (show vp_in ((clS s r) 39) 60 from tq_ne rfl g0 g1 c49) dX10_call_181 (fun H locs hG hL => ?_)
            refine lv_goto (tgt := 234) hx hb dX10_call_182 (by decide) ?_
            exact LA  ((clS s r) 39) (upd (upd (clS s r) 40 (((clS s r) 40) + 1)) 39 (((clS s r) 39) + 1)) (up2 (up2 (up2 (up2 (up2 (up2 (up2 (up2 (up2 (up2 (clR s r) 41 (Int32.toNatClampNeg ((clS s r) 39)) 0) 42 (Int32.toNatClampNeg ((clS s r) 39)) ((clR s r) 65 (Int32.toNatClampNeg 0))) 43 (Int32.toNatClampNeg ((clS s r) 39)) ((clR s r) 65 (Int32.toNatClampNeg 1))) 44 (Int32.toNatClampNeg ((clS s r) 39)) 1) 45 (Int32.toNatClampNeg ((clS s r) 39)) 0) 46 (Int32.toNatClampNeg ((clS s r) 39)) (-1)) 47 (Int32.toNatClampNeg ((clS s r) 39)) 0) 48 (Int32.toNatClampNeg ((clS s r) 39)) 0) 50 (Int32.toNatClampNeg ((clS s r) 39)) (-1)) 51 (Int32.toNatClampNeg ((clS s r) 39)) (-1)) (tq_ne rfl g0 g1 c49) (by simp only [clX, caN, caO, eq_false c13, eq_false c35, eq_true c40, eq_false c49, eq_true c71, eq_true c131, ↓reduceIte]) _ _ hG hL _ (lv_sub hl [1, 0] rfl)
        ·
          refine lv_aload_n hx hb dX10_call_52 rfl (lv_at hl 1 rfl) ?_
          refine lv_iconst (v := 2) hx hb dX10_call_53 (by decide) ?_
          refine m_pi S hG hL 0 rfl (hts (.fieldLink RX10 180 "SwarmLineModel" "thrown" "I") (by decide +kernel)) dX10_call_54 (fun H locs hG hL => ?_)
          refine lv_iconst (v := 0) hx hb dX10_call_57 (by decide) ?_
          exact m_iret S hr hlocks hG hL dX10_call_58 (by simp only [clX, eq_false c13, eq_false c35, eq_true c40, eq_true c49, ↓reduceIte]) (by simp only [clX, eq_false c13, eq_false c35, eq_true c40, eq_true c49, ↓reduceIte]) (by simp only [clX, eq_false c13, eq_false c35, eq_true c40, eq_true c49, ↓reduceIte])
  ·
    refine lv_aload_n hx hb dX10_call_16 rfl (lv_at hl 0 rfl) ?_
    refine lv_iconst (v := 1) hx hb dX10_call_17 (by decide) ?_
    refine m_pi S hG hL 0 rfl (hts (.fieldLink RX10 180 "SwarmLineModel" "thrown" "I") (by decide +kernel)) dX10_call_18 (fun H locs hG hL => ?_)
    refine lv_iconst (v := 0) hx hb dX10_call_21 (by decide) ?_
    exact m_iret S hr hlocks hG hL dX10_call_22 (by simp only [clX, eq_true c13, ↓reduceIte]) (by simp only [clX, eq_true c13, ↓reduceIte]) (by simp only [clX, eq_true c13, ↓reduceIte])
