/-! an hour: the swarms, the keepers, the hives at noon -/
def s1H (s : Nat → Int32) : Nat → Int32 := upd s 1 (s 1 + 1)
def swStep (s : Nat → Int32) (i : Nat) (r : Nat → Nat → Int32) : Nat → Nat → Int32 :=
  if r 15 i = 0 then (if r 22 i - fTa (r 2 (Int32.toNatClampNeg (s 1 / 24))) ≤ 0 then up2 (up2 (up2 r 22 i (r 22 i - fTa (r 2 (Int32.toNatClampNeg (s 1 / 24))))) 15 i 2) 24 i (s 1) else up2 r 22 i (r 22 i - fTa (r 2 (Int32.toNatClampNeg (s 1 / 24))))) else r
def swR (s : Nat → Int32) (r : Nat → Nat → Int32) : Nat → Nat → Nat → Int32
  | 0 => r
  | n + 1 => swStep s n (swR s r n)
def kpStep (s : Nat → Int32) (i : Nat) (r : Nat → Nat → Int32) : Nat → Nat → Int32 := if r 34 i = 0 then r else otR (nI i) s r
def kpR (s : Nat → Int32) (r : Nat → Nat → Int32) : Nat → Nat → Nat → Int32
  | 0 => r
  | n + 1 => kpStep s n (kpR s r n)
abbrev SR : Type := (Nat → Int32) × (Nat → Nat → Int32)
def hvW (d : Int32) (w : SR) : Nat → SR
  | 0 => w
  | n + 1 => (nnS (nI n) d (hvW d w n).1 (hvW d w n).2, nnR (nI n) d (hvW d w n).1 (hvW d w n).2)
def hrK (s : Nat → Int32) (r : Nat → Nat → Int32) : Nat → Nat → Int32 := kpR (s1H s) (swR (s1H s) r (s 14).toNatClampNeg) (s 26).toNatClampNeg
def hrX (s : Nat → Int32) (r : Nat → Nat → Int32) : SR := if (s1H s) 1 - (s1H s) 1 / 24 * 24 = 12 then hvW ((s1H s) 1 / 24) (s1H s, hrK s r) (s 6).toNatClampNeg else (s1H s, hrK s r)
def kI (s : Nat → Int32) (r : Nat → Nat → Int32) : Prop := ∀ j, j < (s 26).toNatClampNeg → ¬ r 34 j = 0 → ¬ r 34 j = 2 → vp_in (r 37 j) 60
def HI (s : Nat → Int32) (r : Nat → Nat → Int32) : Prop := (0 ≤ (s 1).toInt ∧ (s 1).toInt ≤ 743) ∧ (0 ≤ (s 14).toInt ∧ (s 14).toInt ≤ 60) ∧ (0 ≤ (s 26).toInt ∧ (s 26).toInt ≤ 12) ∧ (0 ≤ (s 6).toInt ∧ (s 6).toInt ≤ 20) ∧ kI s r
theorem kI_eq {s s' : Nat → Int32} {r r' : Nat → Nat → Int32} (h : kI s r) (hs : s' 26 = s 26) (h1 : r' 34 = r 34) (h2 : r' 37 = r 37) : kI s' r' := by
  intro j hj
  rw [hs] at hj
  rw [h1, h2]
  exact h j hj
theorem vsR_n {f : Nat} (hf : f = 34 ∨ f = 37 ∨ f = 36) (k c : Int32) (s : Nat → Int32) (r : Nat → Nat → Int32) : vsR k c s r f = r f := by
  unfold vsR
  rcases hf with rfl | rfl | rfl <;> repeat' split
  all_goals rfl
theorem swStep_n {f : Nat} (hf : f = 34 ∨ f = 37) (s : Nat → Int32) (i : Nat) (r : Nat → Nat → Int32) : swStep s i r f = r f := by
  unfold swStep
  rcases hf with rfl | rfl <;> repeat' split
  all_goals rfl
theorem swR_n {f : Nat} (hf : f = 34 ∨ f = 37) (s : Nat → Int32) (r : Nat → Nat → Int32) : ∀ n, swR s r n f = r f
  | 0 => rfl
  | n + 1 => (swStep_n hf s n _).trans (swR_n hf s r n)
theorem otR_kI {s : Nat → Int32} {r : Nat → Nat → Int32} (h : kI s r) (k : Int32) : kI s (otR k s r) := by
  intro j hj
  have q34 : ot2 k s r 34 = r 34 := vsR_n (Or.inl rfl) ..
  have q37 : ot2 k s r 37 = r 37 := vsR_n (Or.inr (Or.inl rfl)) ..
  by_cases e : j = Int32.toNatClampNeg k
  · unfold otR
    split
    · split
      · intro h0; exact absurd (by rw [e]; exact up2_ss (ot1 k r) 34 _ 0) h0
      · intro _ h2; exact absurd (by rw [e]; exact up2_ss (ot2 k s r) 34 _ 2) h2
    · exact h j hj
  · unfold otR
    split
    · split
      · intro h0 h2
        have a : up2 (up2 (ot1 k r) 34 (Int32.toNatClampNeg k) 0) 37 (Int32.toNatClampNeg k) (-1) 34 j = r 34 j := (up2_sn (ot1 k r) 34 0 e)
        have b : up2 (up2 (ot1 k r) 34 (Int32.toNatClampNeg k) 0) 37 (Int32.toNatClampNeg k) (-1) 37 j = r 37 j := (up2_sn (up2 (ot1 k r) 34 (Int32.toNatClampNeg k) 0) 37 (-1) e)
        rw [a] at h0 h2; rw [b]; exact h j hj h0 h2
      · intro h0 h2
        have a : up2 (up2 (ot2 k s r) 34 (Int32.toNatClampNeg k) 2) 35 (Int32.toNatClampNeg k) (ot2 k s r 36 (Int32.toNatClampNeg k)) 34 j = r 34 j := by
          refine (up2_sn (ot2 k s r) 34 2 e).trans ?_
          rw [q34]
        have b : up2 (up2 (ot2 k s r) 34 (Int32.toNatClampNeg k) 2) 35 (Int32.toNatClampNeg k) (ot2 k s r 36 (Int32.toNatClampNeg k)) 37 j = r 37 j := by
          show ot2 k s r 37 j = r 37 j
          rw [q37]
        rw [a] at h0 h2; rw [b]; exact h j hj h0 h2
    · exact h j hj
theorem hr_day {s : Nat → Int32} (h0 : 0 ≤ (s 1).toInt) (hN : (s 1).toInt < 743) : vp_in ((s1H s) 1 / 24) 31 ∧ 0 ≤ ((s1H s) 1).toInt ∧ ((s1H s) 1).toInt ≤ 743 := by
  have e : ((s1H s) 1).toInt = (s 1).toInt + 1 := by
    show (s 1 + 1).toInt = _
    rw [t_add (by rw [t_1]; omega) (by rw [t_1]; omega), t_1]
  refine ⟨vp_in_t ?_ ?_, by omega, by omega⟩
  · rw [t_div24 (by omega)]; omega
  · rw [t_div24 (by omega)]; omega
theorem nnS_n {f : Nat} (hf : ¬ f = 14) (h d : Int32) (s : Nat → Int32) (r : Nat → Nat → Int32) : nnS h d s r f = s f := by
  unfold nnS
  split
  · simp [upd, hf]
  · rfl
theorem nnC_60 {h d : Int32} {s : Nat → Int32} {r : Nat → Nat → Int32} (q : nnC h d s r = true) : ¬ s 14 = 60 := by
  intro e
  unfold nnC at q
  simp [e] at q
theorem nnS_b {h d : Int32} {s : Nat → Int32} {r : Nat → Nat → Int32} (h0 : 0 ≤ (s 14).toInt) (h1 : (s 14).toInt ≤ 60) : 0 ≤ (nnS h d s r 14).toInt ∧ (nnS h d s r 14).toInt ≤ 60 := by
  unfold nnS
  split
  · rename_i q
    have q := nnC_60 q
    rw [t_eq, show (60 : Int32).toInt = 60 from rfl] at q
    show 0 ≤ (s 14 + 1).toInt ∧ (s 14 + 1).toInt ≤ 60
    rw [t_add (by rw [t_1]; omega) (by rw [t_1]; omega), t_1]
    omega
  · exact ⟨h0, h1⟩
theorem nnR_n {f : Nat} (hf : f = 34 ∨ f = 37) (h d : Int32) (s : Nat → Int32) (r : Nat → Nat → Int32) : nnR h d s r f = r f := by
  unfold nnR nn2 nn1
  rcases hf with rfl | rfl <;> repeat' split
  all_goals rfl
theorem kpR_kI {s : Nat → Int32} {r : Nat → Nat → Int32} (h : kI s r) : ∀ n, kI s (kpR s r n)
  | 0 => h
  | n + 1 => by
    show kI s (kpStep s n (kpR s r n))
    unfold kpStep
    split
    · exact kpR_kI h n
    · exact otR_kI (kpR_kI h n) _
theorem hvW_n {f : Nat} (hf : ¬ f = 14) (d : Int32) (w : SR) : ∀ n, (hvW d w n).1 f = w.1 f
  | 0 => rfl
  | n + 1 => (nnS_n hf ..).trans (hvW_n hf d w n)
theorem hvW_b (d : Int32) (w : SR) (h0 : 0 ≤ (w.1 14).toInt) (h1 : (w.1 14).toInt ≤ 60) : ∀ n, 0 ≤ ((hvW d w n).1 14).toInt ∧ ((hvW d w n).1 14).toInt ≤ 60
  | 0 => ⟨h0, h1⟩
  | n + 1 => nnS_b (hvW_b d w h0 h1 n).1 (hvW_b d w h0 h1 n).2
theorem hvW_r {f : Nat} (hf : f = 34 ∨ f = 37) (d : Int32) (w : SR) : ∀ n, (hvW d w n).2 f = w.2 f
  | 0 => rfl
  | n + 1 => (nnR_n hf ..).trans (hvW_r hf d w n)
theorem hrX_n {f : Nat} (hf : ¬ f = 14) (hf2 : ¬ f = 1) (s : Nat → Int32) (r : Nat → Nat → Int32) : (hrX s r).1 f = s f := by
  have e : s1H s f = s f := by simp [s1H, upd, hf2]
  unfold hrX
  split
  · exact (hvW_n hf ..).trans e
  · exact e
theorem hrX_1 (s : Nat → Int32) (r : Nat → Nat → Int32) : (hrX s r).1 1 = s 1 + 1 := by
  unfold hrX
  split
  · exact hvW_n (by decide) ..
  · rfl
theorem hrX_HI {s : Nat → Int32} {r : Nat → Nat → Int32} (hI : HI s r) (hN : (s 1).toInt < 743) : HI (hrX s r).1 (hrX s r).2 := by
  have q := hr_day hI.1.1 hN
  have k0 : kI (s1H s) (swR (s1H s) r (s 14).toNatClampNeg) := kI_eq hI.2.2.2.2 rfl (swR_n (Or.inl rfl) ..) (swR_n (Or.inr rfl) ..)
  have k1 : kI (s1H s) (hrK s r) := kpR_kI k0 _
  refine ⟨?_, ?_, ?_, ?_, ?_⟩
  · rw [hrX_1]; exact q.2
  · unfold hrX
    split
    · exact hvW_b _ _ hI.2.1.1 hI.2.1.2 _
    · exact hI.2.1
  · rw [hrX_n (by decide) (by decide)]; exact hI.2.2.1
  · rw [hrX_n (by decide) (by decide)]; exact hI.2.2.2.1
  · unfold hrX
    split
    · exact kI_eq k1 (hvW_n (by decide) ..) (hvW_r (Or.inl rfl) ..) (hvW_r (Or.inr rfl) ..)
    · exact k1
def hsT : Nat → (Nat → Int32) → (Nat → Nat → Int32) → SR
  | 0, s, r => (s, r)
  | n + 1, s, r => if 743 ≤ s 1 then (s, r) else hsT n (hrX s r).1 (hrX s r).2
def hsX (n : Int32) (s : Nat → Int32) (r : Nat → Nat → Int32) : SR := if fIn n 0 100 = 0 then (upd s 0 1, r) else hsT n.toNatClampNeg (upd s 0 0) r
def vHs (n : Int32) (s : Nat → Int32) (r : Nat → Nat → Int32) : Int32 := if fIn n 0 100 = 0 then 0 else (hsT n.toNatClampNeg (upd s 0 0) r).1 1
theorem hs_lt {x : Int32} (c : ¬ 743 ≤ x) : x.toInt < 743 := by
  rw [t_le, show (743 : Int32).toInt = 743 from rfl] at c
  omega
theorem fIn_100 {n : Int32} (h : ¬ fIn n 0 100 = 0) : 0 ≤ n.toInt ∧ n.toInt ≤ 100 := by
  have := fIn_b h
  rwa [t_0, show (100 : Int32).toInt = 100 from rfl] at this
set_option maxHeartbeats 4000000 in
set_option maxRecDepth 100000 in
theorem c_X10_hour {l : Launch} {D : va_G} {cI cZ cB cO cR cJ : ClassId} {Hb : Heap} {lv : Nat → Prop} {ad : Nat → Nat} {ce0 : Nat → va_E} (hlv : lM lv)  (s : Nat → Int32) (r : Nat → Nat → Int32) (hI : HI s r) (hN : (s 1).toInt < 743) : mMet l D cI cZ cB cO cR cJ Hb lv ad ce0 yX10_hour wsX10_hour 3 72 [.ref (ad 0)] s r none ((hrX s r).1) ((hrX s r).2) := by
  refine Met.ofW (cc := cX10_hour) (maxL := 2) (ret := none) (by decide) rfl ?_
  intro p0 e0 s0 m0 args below meth c0 s₁ B hml hv
  obtain ⟨rfl, hG, hK⟩ := hv
  have hx := B.exec
  have hb := B.bytes
  have hr := B.returns
  have hts := atoms_spec (ws := wsX10_hour) B.pre
  have hown : s0.vm.findClass RX10 = some m0.cls := findClass_of_methodNamed B.named
  have hlocks := B.notSynchronized
  have S : mX p0 m0 c0 cX10_hour 2 s0 _ wsX10_hour D cI cZ cB cO cR cJ lv := ⟨⟨hx, hb, hml, hown, hts⟩, hK, fun w h => List.mem_cons_of_mem _ (List.mem_append_right _ h), hlv⟩
  have hL : gL Hb [] := gL.nil
  have hl := lv_entry ([.ref (ad 0)]) (n := 2) (Nat.le_of_ble_eq_true rfl)
  rw [lg_entry_eq]
  generalize (lg_sl ([.ref (ad 0)]) ++ List.replicate (2 - (lg_sl ([.ref (ad 0)])).length) Slot.unset).toArray = ls at hl ⊢
  have hl : lv_has ls 2 [(0, .ref (ad 0))] := hl
  have g0 : 0 ≤ ((s1H s) 14).toInt := hI.2.1.1
  have g1 : ((s1H s) 14).toInt ≤ 60 := hI.2.1.2
  have g2 : 0 ≤ ((s1H s) 26).toInt := hI.2.2.1.1
  have g3 : ((s1H s) 26).toInt ≤ 12 := hI.2.2.1.2
  have g4 : 0 ≤ ((s1H s) 6).toInt := hI.2.2.2.1.1
  have g5 : ((s1H s) 6).toInt ≤ 20 := hI.2.2.2.1.2
  have hday := (hr_day hI.1.1 hN).1
  refine lv_aload_n hx hb dX10_hour_0 rfl (lv_at hl 0 rfl) ?_
  refine lv_dup hx hb dX10_hour_1 rfl ?_
  refine m_gi (v := s 1) S hG 1 rfl (hts (.fieldLink RX10 206 "SwarmLineModel" "now" "I") (by decide +kernel)) dX10_hour_2 rfl ?_
  refine lv_iconst (v := 1) hx hb dX10_hour_5 (by decide) ?_
  refine lv_iadd hx hb dX10_hour_6 ?_
  refine m_pi S hG hL 1 rfl (hts (.fieldLink RX10 206 "SwarmLineModel" "now" "I") (by decide +kernel)) dX10_hour_7 (fun H locs hG hL => ?_)
  have hG : gW D Hb lv ad (mJ ce0 ad cI cZ (s1H s) r) H := hG
  refine lv_iconst (v := 0) hx hb dX10_hour_10 (by decide) ?_
  refine lv_istore_n (lv' := [(1, .int 0), (0, .ref (ad 0))]) hx hb dX10_hour_11 rfl hl (by decide) rfl (fun ls hl => ?_)
  have LP : ∀ (n : Nat) (i : Nat) (x : Int32) (rv : Nat → Nat → Int32) (ex : x = nI i) (hi : i ≤ ((s1H s) 14).toNatClampNeg) (hn : ((s1H s) 14).toNatClampNeg + 1 ≤ i + n) (hR : rv = swR (s1H s) r i), ∀ (H : Heap) (locs : List Loc), gW D Hb lv ad (mJ ce0 ad cI cZ (s1H s) rv) H → gL Hb locs → ∀ (ls : Array Slot), lv_has ls 2 [(0, .ref (ad 0)), (1, .int x)] → W p0 l e0 (headSpec wsX10_hour { frames := 3, cells := 0, slots := 0, locals := 72 }).room s0 m0 ([.ref (ad 0)] : List Value).toArray below meth c0 H locs 0 0 (MQ below (gQ D Hb lv ad none (mJ ce0 ad cI cZ ((hrX s r).1) ((hrX s r).2))) ([.ref (ad 0)] : List Value).toArray s0 0 0 (gA Hb)) (F0 m0 12 ls []) := by
    intro n
    induction n with
    | zero => intro i x rv ex hi hn hR; exact absurd hn (by omega)
    | succ n ih =>
      intro i x rv ex hi hn hR H locs hG hL ls hl
      have hbd : ((s1H s) 14).toNatClampNeg ≤ 60 := t_ixl g0 g1; have hii : Int32.toNatClampNeg x = i := by { rw [ex]; exact ix_nI (by omega) }
      refine lv_iload_n hx hb dX10_hour_12 rfl (lv_at hl 1 rfl) ?_
      refine lv_aload_n hx hb dX10_hour_13 rfl (lv_at hl 0 rfl) ?_
      refine m_gi (v := (s1H s) 14) S hG 14 rfl (hts (.fieldLink RX10 186 "SwarmLineModel" "swarms" "I") (by decide +kernel)) dX10_hour_14 rfl ?_
      refine lv_icmp_ge (tgt := 91) hx hb dX10_hour_17 (by decide) (fun c17 => ?_) (fun c17 => ?_)
      ·
        have hEq := cl_ge g0 hi (ex ▸ c17)
        refine lv_iconst (v := 0) hx hb dX10_hour_91 (by decide) ?_
        refine lv_istore_n (lv' := [(1, .int 0), (0, .ref (ad 0))]) hx hb dX10_hour_92 rfl hl (by decide) rfl (fun ls hl => ?_)
        have LP2 : ∀ (n2 : Nat) (i2 : Nat) (x2 : Int32) (rv2 : Nat → Nat → Int32) (ex2 : x2 = nI i2) (hi2 : i2 ≤ ((s1H s) 26).toNatClampNeg) (hn2 : ((s1H s) 26).toNatClampNeg + 1 ≤ i2 + n2) (hR2 : rv2 = kpR (s1H s) (swR (s1H s) r (s 14).toNatClampNeg) i2) (hK2 : kI (s1H s) rv2), ∀ (H : Heap) (locs : List Loc), gW D Hb lv ad (mJ ce0 ad cI cZ (s1H s) rv2) H → gL Hb locs → ∀ (ls : Array Slot), lv_has ls 2 [(0, .ref (ad 0)), (1, .int x2)] → W p0 l e0 (headSpec wsX10_hour { frames := 3, cells := 0, slots := 0, locals := 72 }).room s0 m0 ([.ref (ad 0)] : List Value).toArray below meth c0 H locs 0 0 (MQ below (gQ D Hb lv ad none (mJ ce0 ad cI cZ ((hrX s r).1) ((hrX s r).2))) ([.ref (ad 0)] : List Value).toArray s0 0 0 (gA Hb)) (F0 m0 93 ls []) := by
          intro n2
          induction n2 with
          | zero => intro i2 x2 rv2 ex2 hi2 hn2 hR2 hK2; exact absurd hn2 (by omega)
          | succ n2 ih2 =>
            intro i2 x2 rv2 ex2 hi2 hn2 hR2 hK2 H locs hG hL ls hl
            have hbd2 : ((s1H s) 26).toNatClampNeg ≤ 12 := t_ixl g2 g3; have hii2 : Int32.toNatClampNeg x2 = i2 := by { rw [ex2]; exact ix_nI (by omega) }
            refine lv_iload_n hx hb dX10_hour_93 rfl (lv_at hl 1 rfl) ?_
            refine lv_aload_n hx hb dX10_hour_94 rfl (lv_at hl 0 rfl) ?_
            refine m_gi (v := (s1H s) 26) S hG 26 rfl (hts (.fieldLink RX10 189 "SwarmLineModel" "keepers" "I") (by decide +kernel)) dX10_hour_95 rfl ?_
            refine lv_icmp_ge (tgt := 121) hx hb dX10_hour_98 (by decide) (fun c98 => ?_) (fun c98 => ?_)
            ·
              have hEq2 := cl_ge g2 hi2 (ex2 ▸ c98)
              refine lv_aload_n hx hb dX10_hour_121 rfl (lv_at hl 0 rfl) ?_
              refine m_gi (v := (s1H s) 1) S hG 1 rfl (hts (.fieldLink RX10 206 "SwarmLineModel" "now" "I") (by decide +kernel)) dX10_hour_122 rfl ?_
              refine lv_bipush (v := 24) hx hb dX10_hour_125 (by decide) ?_
              refine lv_irem hx hb dX10_hour_127 (by decide) ?_
              refine lv_bipush (v := 12) hx hb dX10_hour_128 (by decide) ?_
              refine lv_icmp_eq (tgt := 134) hx hb dX10_hour_130 (by decide) (fun c130 => ?_) (fun c130 => ?_)
              ·
                refine lv_iconst (v := 0) hx hb dX10_hour_134 (by decide) ?_
                refine lv_istore_n (lv' := [(1, .int 0), (0, .ref (ad 0))]) hx hb dX10_hour_135 rfl hl (by decide) rfl (fun ls hl => ?_)
                have LP3 : ∀ (n3 : Nat) (i3 : Nat) (x3 : Int32) (sv : Nat → Int32) (rv3 : Nat → Nat → Int32) (ex3 : x3 = nI i3) (hi3 : i3 ≤ ((s1H s) 6).toNatClampNeg) (hn3 : ((s1H s) 6).toNatClampNeg + 1 ≤ i3 + n3) (hW : (sv, rv3) = hvW ((s1H s) 1 / 24) (s1H s, hrK s r) i3) (hs1 : sv 1 = (s1H s) 1) (hs6 : sv 6 = (s1H s) 6) (hs14 : 0 ≤ (sv 14).toInt ∧ (sv 14).toInt ≤ 60), ∀ (H : Heap) (locs : List Loc), gW D Hb lv ad (mJ ce0 ad cI cZ sv rv3) H → gL Hb locs → ∀ (ls : Array Slot), lv_has ls 2 [(0, .ref (ad 0)), (1, .int x3)] → W p0 l e0 (headSpec wsX10_hour { frames := 3, cells := 0, slots := 0, locals := 72 }).room s0 m0 ([.ref (ad 0)] : List Value).toArray below meth c0 H locs 0 0 (MQ below (gQ D Hb lv ad none (mJ ce0 ad cI cZ ((hrX s r).1) ((hrX s r).2))) ([.ref (ad 0)] : List Value).toArray s0 0 0 (gA Hb)) (F0 m0 136 ls []) := by
                  intro n3
                  induction n3 with
                  | zero => intro i3 x3 sv rv3 ex3 hi3 hn3 hW hs1 hs6 hs14; exact absurd hn3 (by omega)
                  | succ n3 ih3 =>
                    intro i3 x3 sv rv3 ex3 hi3 hn3 hW hs1 hs6 hs14 H locs hG hL ls hl
                    have hbd3 : ((s1H s) 6).toNatClampNeg ≤ 20 := t_ixl g4 g5; have hii3 : Int32.toNatClampNeg x3 = i3 := by { rw [ex3]; exact ix_nI (by omega) }
                    refine lv_iload_n hx hb dX10_hour_136 rfl (lv_at hl 1 rfl) ?_
                    refine lv_aload_n hx hb dX10_hour_137 rfl (lv_at hl 0 rfl) ?_
                    refine m_gi (v := sv 6) S hG 6 rfl (hts (.fieldLink RX10 183 "SwarmLineModel" "hives" "I") (by decide +kernel)) dX10_hour_138 rfl ?_
                    refine lv_icmp_ge (tgt := 162) hx hb dX10_hour_141 (by decide) (fun c141 => ?_) (fun c141 => ?_)
                    ·
                      have c141 := c141; rw [hs6] at c141; have hEq3 := cl_ge g4 hi3 (ex3 ▸ c141)
                      exact m_vret S hr hlocks hG hL dX10_hour_162 (by simp only [hrX, eq_true c130, ↓reduceIte]; have q := hW; rw [hEq3] at q; exact congrArg Prod.fst q) (by simp only [hrX, eq_true c130, ↓reduceIte]; have q := hW; rw [hEq3] at q; exact congrArg Prod.snd q)
                    ·
                      have c141 := c141; rw [hs6] at c141; have hlt3 := cl_lt g4 hi3 (ex3 ▸ c141)
                      refine lv_aload_n hx hb dX10_hour_144 rfl (lv_at hl 0 rfl) ?_
                      refine lv_iload_n hx hb dX10_hour_145 rfl (lv_at hl 1 rfl) ?_
                      refine lv_aload_n hx hb dX10_hour_146 rfl (lv_at hl 0 rfl) ?_
                      refine m_gi (v := sv 1) S hG 1 rfl (hts (.fieldLink RX10 206 "SwarmLineModel" "now" "I") (by decide +kernel)) dX10_hour_147 rfl ?_
                      refine lv_bipush (v := 24) hx hb dX10_hour_150 (by decide) ?_
                      refine lv_idiv hx hb dX10_hour_152 (by decide) ?_
                      refine m_callV (n := 2) (As := [.int x3, .int ((sv 1) / 24)]) (rest := []) (st1 := []) S hG hL (c_X10_noon hlv x3 ((sv 1) / 24) sv rv3 (hs14.1) (hs14.2) (by rw [ex3]; exact vp_in_i (by omega) (by omega)) (by rw [hs1]; exact hday)) gX10_hour_X10_noon rfl (by decide +kernel) ⟨Nat.le_of_ble_eq_true rfl, Nat.le_of_ble_eq_true rfl⟩ rfl hl.1 rfl (Nat.le_of_ble_eq_true rfl) dX10_hour_153 ⟨Nat.zero_le _, Nat.zero_le _⟩ (rfl) (fun H locs hG hL => ?_)
                      refine lv_iinc (v := x3 + 1) (lv' := [(1, .int (x3 + 1)), (0, .ref (ad 0))]) hx hb dX10_hour_156 hl (k := 1) rfl (by rfl) (by decide) rfl (fun ls hl => ?_)
                      refine lv_goto (tgt := 136) hx hb dX10_hour_159 (by decide) ?_
                      exact ih3  (i3 + 1) (x3 + 1) (nnS x3 ((sv 1) / 24) sv rv3) (nnR x3 ((sv 1) / 24) sv rv3) (by rw [ex3]; exact nI_1 i3) (hlt3) (by omega) (by have q1 : sv = (hvW ((s1H s) 1 / 24) (s1H s, hrK s r) i3).1 := congrArg Prod.fst hW; have q2 : rv3 = (hvW ((s1H s) 1 / 24) (s1H s, hrK s r) i3).2 := congrArg Prod.snd hW; simp only [hvW, ← q1, ← q2, ← ex3, hs1]) ((nnS_n (by decide) ..).trans hs1) ((nnS_n (by decide) ..).trans hs6) (nnS_b hs14.1 hs14.2) _ _ hG hL _ (lv_sub hl [1, 0] rfl)
                exact LP3 (((s1H s) 6).toNatClampNeg + 1) 0 0 (s1H s) rv2 (rfl) (Nat.zero_le _) (by omega) (by rw [hR2, hEq2]; rfl) (rfl) (rfl) (⟨g0, g1⟩) _ _ hG hL _ (lv_sub hl [1, 0] rfl)
              ·
                exact m_vret S hr hlocks hG hL dX10_hour_133 (by simp only [hrX, eq_false c130, ↓reduceIte]) (by simp only [hrX, eq_false c130, ↓reduceIte]; rw [hR2, hEq2]; rfl)
            ·
              have hlt2 := cl_lt g2 hi2 (ex2 ▸ c98)
              refine lv_aload_n hx hb dX10_hour_101 rfl (lv_at hl 0 rfl) ?_
              refine m_ga S hG 34 rfl (hts (.fieldLink RX10 97 "SwarmLineModel" "keeperState" "[I") (by decide +kernel)) dX10_hour_102 ?_
              refine lv_iload_n hx hb dX10_hour_105 rfl (lv_at hl 1 rfl) ?_
              refine m_ldj (j := i2) (v := rv2 34 i2) S hG 34 rfl hii2 (show vp_in x2 12 from by rw [ex2]; exact vp_in_i (by omega) (by omega)) dX10_hour_106 (rfl) ?_
              refine lv_if_eq (tgt := 115) hx hb dX10_hour_107 (by decide) (fun c107 => ?_) (fun c107 => ?_)
              ·
                refine lv_iinc (v := x2 + 1) (lv' := [(1, .int (x2 + 1)), (0, .ref (ad 0))]) hx hb dX10_hour_115 hl (k := 1) rfl (by rfl) (by decide) rfl (fun ls hl => ?_)
                refine lv_goto (tgt := 93) hx hb dX10_hour_118 (by decide) ?_
                exact ih2  (i2 + 1) (x2 + 1) rv2 (by rw [ex2]; exact nI_1 i2) (hlt2) (by omega) (by show _ = kpStep (s1H s) i2 (kpR (s1H s) (swR (s1H s) r (s 14).toNatClampNeg) i2); rw [← hR2]; simp only [kpStep, ← ex2, eq_true c17, eq_false c98, eq_true c107, ↓reduceIte]) (hK2) _ _ hG hL _ (lv_sub hl [1, 0] rfl)
              ·
                refine lv_aload_n hx hb dX10_hour_110 rfl (lv_at hl 0 rfl) ?_
                refine lv_iload_n hx hb dX10_hour_111 rfl (lv_at hl 1 rfl) ?_
                refine m_callV (n := 1) (As := [.int x2]) (rest := []) (st1 := []) S hG hL (c_X10_onTheWay hlv x2 (s1H s) rv2 (g0) (g1) (by rw [ex2]; exact vp_in_i (by omega) (by omega)) (by rw [hii2]; exact fun h2 => hK2 i2 hlt2 c107 h2)) gX10_hour_X10_onTheWay rfl (by decide +kernel) ⟨Nat.le_of_ble_eq_true rfl, Nat.le_of_ble_eq_true rfl⟩ rfl hl.1 rfl (Nat.le_of_ble_eq_true rfl) dX10_hour_112 ⟨Nat.zero_le _, Nat.zero_le _⟩ (rfl) (fun H locs hG hL => ?_)
                refine lv_iinc (v := x2 + 1) (lv' := [(1, .int (x2 + 1)), (0, .ref (ad 0))]) hx hb dX10_hour_115 hl (k := 1) rfl (by rfl) (by decide) rfl (fun ls hl => ?_)
                refine lv_goto (tgt := 93) hx hb dX10_hour_118 (by decide) ?_
                exact ih2  (i2 + 1) (x2 + 1) (otR x2 (s1H s) rv2) (by rw [ex2]; exact nI_1 i2) (hlt2) (by omega) (by show _ = kpStep (s1H s) i2 (kpR (s1H s) (swR (s1H s) r (s 14).toNatClampNeg) i2); rw [← hR2]; simp only [kpStep, ← ex2, eq_true c17, eq_false c98, eq_false c107, ↓reduceIte]) (otR_kI hK2 x2) _ _ hG hL _ (lv_sub hl [1, 0] rfl)
        exact LP2 (((s1H s) 26).toNatClampNeg + 1) 0 0 rv (rfl) (Nat.zero_le _) (by omega) (by rw [hR, hEq]; rfl) (by rw [hR]; exact kI_eq hI.2.2.2.2 rfl (swR_n (Or.inl rfl) ..) (swR_n (Or.inr rfl) ..)) _ _ hG hL _ (lv_sub hl [1, 0] rfl)
      ·
        have hlt := cl_lt g0 hi (ex ▸ c17)
        refine lv_aload_n hx hb dX10_hour_20 rfl (lv_at hl 0 rfl) ?_
        refine m_ga S hG 15 rfl (hts (.fieldLink RX10 43 "SwarmLineModel" "swarmState" "[I") (by decide +kernel)) dX10_hour_21 ?_
        refine lv_iload_n hx hb dX10_hour_24 rfl (lv_at hl 1 rfl) ?_
        refine m_ldj (j := i) (v := rv 15 i) S hG 15 rfl hii (show vp_in x 60 from by rw [ex]; exact vp_in_i (by omega) (by omega)) dX10_hour_25 (rfl) ?_
        refine lv_if_eq (tgt := 32) hx hb dX10_hour_26 (by decide) (fun c26 => ?_) (fun c26 => ?_)
        ·
          refine lv_aload_n hx hb dX10_hour_32 rfl (lv_at hl 0 rfl) ?_
          refine m_ga S hG 22 rfl (hts (.fieldLink RX10 64 "SwarmLineModel" "swarmPatience" "[I") (by decide +kernel)) dX10_hour_33 ?_
          refine lv_iload_n hx hb dX10_hour_36 rfl (lv_at hl 1 rfl) ?_
          refine lv_dup2_11 hx hb dX10_hour_37 rfl rfl ?_
          refine m_ldj (j := i) (v := rv 22 i) S hG 22 rfl hii (show vp_in x 60 from by rw [ex]; exact vp_in_i (by omega) (by omega)) dX10_hour_38 (rfl) ?_
          refine lv_aload_n hx hb dX10_hour_39 rfl (lv_at hl 0 rfl) ?_
          refine m_ga S hG 2 rfl (hts (.fieldLink RX10 7 "SwarmLineModel" "warmth" "[I") (by decide +kernel)) dX10_hour_40 ?_
          refine lv_aload_n hx hb dX10_hour_43 rfl (lv_at hl 0 rfl) ?_
          refine m_gi (v := (s1H s) 1) S hG 1 rfl (hts (.fieldLink RX10 206 "SwarmLineModel" "now" "I") (by decide +kernel)) dX10_hour_44 rfl ?_
          refine lv_bipush (v := 24) hx hb dX10_hour_47 (by decide) ?_
          refine lv_idiv hx hb dX10_hour_49 (by decide) ?_
          refine m_ld (v := rv 2 (Int32.toNatClampNeg (((s1H s) 1) / 24))) S hG 2 rfl (show vp_in (((s1H s) 1) / 24) 31 from hday) dX10_hour_50 (rfl) ?_
          refine m_callP (n := 1) (As := [.int (rv 2 (Int32.toNatClampNeg (((s1H s) 1) / 24)))]) (rest := [.int (rv 22 i), .int x, .ref (ad 23)]) (st1 := .int (fTa (rv 2 (Int32.toNatClampNeg (((s1H s) 1) / 24)))) :: [.int (rv 22 i), .int x, .ref (ad 23)]) S.1 (c_X10_taken (rv 2 (Int32.toNatClampNeg (((s1H s) 1) / 24)))) gX10_hour_X10_taken rfl (by decide +kernel) ⟨Nat.le_of_ble_eq_true rfl, Nat.le_of_ble_eq_true rfl⟩ rfl hl.1 rfl (Nat.le_of_ble_eq_true rfl) dX10_hour_51 ⟨Nat.zero_le _, Nat.zero_le _⟩ rfl ?_
          refine lv_isub hx hb dX10_hour_54 ?_
          refine m_stj (j := i) S hG hL 22 rfl hii (show vp_in x 60 from by rw [ex]; exact vp_in_i (by omega) (by omega)) dX10_hour_55 (fun H locs hG hL => ?_)
          refine lv_aload_n hx hb dX10_hour_56 rfl (lv_at hl 0 rfl) ?_
          refine m_ga S hG 22 rfl (hts (.fieldLink RX10 64 "SwarmLineModel" "swarmPatience" "[I") (by decide +kernel)) dX10_hour_57 ?_
          refine lv_iload_n hx hb dX10_hour_60 rfl (lv_at hl 1 rfl) ?_
          refine m_ldj (j := i) (v := (rv 22 i) - (fTa (rv 2 (Int32.toNatClampNeg (((s1H s) 1) / 24))))) S hG 22 rfl hii (show vp_in x 60 from by rw [ex]; exact vp_in_i (by omega) (by omega)) dX10_hour_61 (up2_ss ..) ?_
          refine lv_if_le (tgt := 68) hx hb dX10_hour_62 (by decide) (fun c62 => ?_) (fun c62 => ?_)
          ·
            refine lv_aload_n hx hb dX10_hour_68 rfl (lv_at hl 0 rfl) ?_
            refine m_ga S hG 15 rfl (hts (.fieldLink RX10 43 "SwarmLineModel" "swarmState" "[I") (by decide +kernel)) dX10_hour_69 ?_
            refine lv_iload_n hx hb dX10_hour_72 rfl (lv_at hl 1 rfl) ?_
            refine lv_iconst (v := 2) hx hb dX10_hour_73 (by decide) ?_
            refine m_stj (j := i) S hG hL 15 rfl hii (show vp_in x 60 from by rw [ex]; exact vp_in_i (by omega) (by omega)) dX10_hour_74 (fun H locs hG hL => ?_)
            refine lv_aload_n hx hb dX10_hour_75 rfl (lv_at hl 0 rfl) ?_
            refine m_ga S hG 24 rfl (hts (.fieldLink RX10 70 "SwarmLineModel" "swarmHour" "[I") (by decide +kernel)) dX10_hour_76 ?_
            refine lv_iload_n hx hb dX10_hour_79 rfl (lv_at hl 1 rfl) ?_
            refine lv_aload_n hx hb dX10_hour_80 rfl (lv_at hl 0 rfl) ?_
            refine m_gi (v := (s1H s) 1) S hG 1 rfl (hts (.fieldLink RX10 206 "SwarmLineModel" "now" "I") (by decide +kernel)) dX10_hour_81 rfl ?_
            refine m_stj (j := i) S hG hL 24 rfl hii (show vp_in x 60 from by rw [ex]; exact vp_in_i (by omega) (by omega)) dX10_hour_84 (fun H locs hG hL => ?_)
            refine lv_iinc (v := x + 1) (lv' := [(1, .int (x + 1)), (0, .ref (ad 0))]) hx hb dX10_hour_85 hl (k := 1) rfl (by rfl) (by decide) rfl (fun ls hl => ?_)
            refine lv_goto (tgt := 12) hx hb dX10_hour_88 (by decide) ?_
            exact ih  (i + 1) (x + 1) (up2 (up2 (up2 rv 22 i ((rv 22 i) - (fTa (rv 2 (Int32.toNatClampNeg (((s1H s) 1) / 24)))))) 15 i 2) 24 i ((s1H s) 1)) (by rw [ex]; exact nI_1 i) (hlt) (by omega) (by show _ = swStep (s1H s) i (swR (s1H s) r i); rw [← hR]; simp only [swStep, eq_false c17, eq_true c26, eq_true c62, ↓reduceIte]) _ _ hG hL _ (lv_sub hl [1, 0] rfl)
          ·
            refine lv_goto (tgt := 85) hx hb dX10_hour_65 (by decide) ?_
            refine lv_iinc (v := x + 1) (lv' := [(1, .int (x + 1)), (0, .ref (ad 0))]) hx hb dX10_hour_85 hl (k := 1) rfl (by rfl) (by decide) rfl (fun ls hl => ?_)
            refine lv_goto (tgt := 12) hx hb dX10_hour_88 (by decide) ?_
            exact ih  (i + 1) (x + 1) (up2 rv 22 i ((rv 22 i) - (fTa (rv 2 (Int32.toNatClampNeg (((s1H s) 1) / 24)))))) (by rw [ex]; exact nI_1 i) (hlt) (by omega) (by show _ = swStep (s1H s) i (swR (s1H s) r i); rw [← hR]; simp only [swStep, eq_false c17, eq_true c26, eq_false c62, ↓reduceIte]) _ _ hG hL _ (lv_sub hl [1, 0] rfl)
        ·
          refine lv_goto (tgt := 85) hx hb dX10_hour_29 (by decide) ?_
          refine lv_iinc (v := x + 1) (lv' := [(1, .int (x + 1)), (0, .ref (ad 0))]) hx hb dX10_hour_85 hl (k := 1) rfl (by rfl) (by decide) rfl (fun ls hl => ?_)
          refine lv_goto (tgt := 12) hx hb dX10_hour_88 (by decide) ?_
          exact ih  (i + 1) (x + 1) rv (by rw [ex]; exact nI_1 i) (hlt) (by omega) (by show _ = swStep (s1H s) i (swR (s1H s) r i); rw [← hR]; simp only [swStep, eq_false c17, eq_false c26, ↓reduceIte]) _ _ hG hL _ (lv_sub hl [1, 0] rfl)
  exact LP (((s1H s) 14).toNatClampNeg + 1) 0 0 r (rfl) (Nat.zero_le _) (by omega) (rfl) _ _ hG hL _ (lv_sub hl [1, 0] rfl)
set_option maxHeartbeats 4000000 in
set_option maxRecDepth 100000 in
theorem c_X10_hours {l : Launch} {D : va_G} {cI cZ cB cO cR cJ : ClassId} {Hb : Heap} {lv : Nat → Prop} {ad : Nat → Nat} {ce0 : Nat → va_E} (hlv : lM lv) (n_ : Int32) (s : Nat → Int32) (r : Nat → Nat → Int32) (hI : HI s r) : mMet l D cI cZ cB cO cR cJ Hb lv ad ce0 yX10_hours wsX10_hours 4 93 [.ref (ad 0), .int n_] s r (some (.int (vHs n_ s r))) ((hsX n_ s r).1) ((hsX n_ s r).2) := by
  refine Met.ofW (cc := cX10_hours) (maxL := 3) (ret := (some .int)) (by decide) rfl ?_
  intro p0 e0 s0 m0 args below meth c0 s₁ B hml hv
  obtain ⟨rfl, hG, hK⟩ := hv
  have hx := B.exec
  have hb := B.bytes
  have hr := B.returns
  have hts := atoms_spec (ws := wsX10_hours) B.pre
  have hown : s0.vm.findClass RX10 = some m0.cls := findClass_of_methodNamed B.named
  have hlocks := B.notSynchronized
  have S : mX p0 m0 c0 cX10_hours 3 s0 _ wsX10_hours D cI cZ cB cO cR cJ lv := ⟨⟨hx, hb, hml, hown, hts⟩, hK, fun w h => List.mem_cons_of_mem _ (List.mem_append_right _ h), hlv⟩
  have hL : gL Hb [] := gL.nil
  have hl := lv_entry ([.ref (ad 0), .int n_]) (n := 3) (Nat.le_of_ble_eq_true rfl)
  rw [lg_entry_eq]
  generalize (lg_sl ([.ref (ad 0), .int n_]) ++ List.replicate (3 - (lg_sl ([.ref (ad 0), .int n_])).length) Slot.unset).toArray = ls at hl ⊢
  have hl : lv_has ls 3 [(0, .ref (ad 0)), (1, .int n_)] := hl
  refine lv_aload_n hx hb dX10_hours_0 rfl (lv_at hl 0 rfl) ?_
  refine lv_iload_n hx hb dX10_hours_1 rfl (lv_at hl 1 rfl) ?_
  refine lv_iconst (v := 0) hx hb dX10_hours_2 (by decide) ?_
  refine lv_bipush (v := 100) hx hb dX10_hours_3 (by decide) ?_
  refine m_callP (n := 3) (As := [.int n_, .int 0, .int 100]) (rest := [.ref (ad 0)]) (st1 := .int (fIn n_ 0 100) :: [.ref (ad 0)]) S.1 (c_X10_isIn n_ 0 100) gX10_hours_X10_isIn rfl (by decide +kernel) ⟨Nat.le_of_ble_eq_true rfl, Nat.le_of_ble_eq_true rfl⟩ rfl hl.1 rfl (Nat.le_of_ble_eq_true rfl) dX10_hours_5 ⟨Nat.zero_le _, Nat.zero_le _⟩ rfl ?_
  refine lv_if_ne (tgt := 15) hx hb dX10_hours_8 (by decide) (fun c8 => ?_) (fun c8 => ?_)
  ·
    have g0 := (fIn_100 c8).1; have g1 := (fIn_100 c8).2
    refine lv_iconst (v := 0) hx hb dX10_hours_15 (by decide) ?_
    refine m_pi S hG hL 0 rfl (hts (.fieldLink RX10 180 "SwarmLineModel" "thrown" "I") (by decide +kernel)) dX10_hours_16 (fun H locs hG hL => ?_)
    refine lv_aload_n hx hb dX10_hours_19 rfl (lv_at hl 0 rfl) ?_
    refine m_gi (v := 0) S hG 0 rfl (hts (.fieldLink RX10 180 "SwarmLineModel" "thrown" "I") (by decide +kernel)) dX10_hours_20 rfl ?_
    refine lv_if_le (tgt := 28) hx hb dX10_hours_23 (by decide) (fun _ => ?_) (fun c => absurd c (by decide))
    refine lv_iconst (v := 0) hx hb dX10_hours_28 (by decide) ?_
    refine lv_istore_n (lv' := [(2, .int 0), (0, .ref (ad 0)), (1, .int n_)]) hx hb dX10_hours_29 rfl hl (by decide) rfl (fun ls hl => ?_)
    have LP : ∀ (n : Nat) (i : Nat) (x : Int32) (sv : Nat → Int32) (rv : Nat → Nat → Int32) (ex : x = nI i) (hi : i ≤ (n_).toNatClampNeg) (hn : (n_).toNatClampNeg + 1 ≤ i + n) (hF : hsT (n_.toNatClampNeg - i) sv rv = hsT n_.toNatClampNeg (upd s 0 0) r) (hH : HI sv rv), ∀ (H : Heap) (locs : List Loc), gW D Hb lv ad (mJ ce0 ad cI cZ sv rv) H → gL Hb locs → ∀ (ls : Array Slot), lv_has ls 3 [(0, .ref (ad 0)), (1, .int n_), (2, .int x)] → W p0 l e0 (headSpec wsX10_hours { frames := 4, cells := 0, slots := 0, locals := 93 }).room s0 m0 ([.ref (ad 0), .int n_] : List Value).toArray below meth c0 H locs 0 0 (MQ below (gQ D Hb lv ad (some (.int (vHs n_ s r))) (mJ ce0 ad cI cZ ((hsX n_ s r).1) ((hsX n_ s r).2))) ([.ref (ad 0), .int n_] : List Value).toArray s0 0 0 (gA Hb)) (F0 m0 30 ls []) := by
      intro n
      induction n with
      | zero => intro i x sv rv ex hi hn hF hH; exact absurd hn (by omega)
      | succ n ih =>
        intro i x sv rv ex hi hn hF hH H locs hG hL ls hl
        have hbd : (n_).toNatClampNeg ≤ 100 := t_ixl g0 g1; have hii : Int32.toNatClampNeg x = i := by { rw [ex]; exact ix_nI (by omega) }
        refine lv_iload_n hx hb dX10_hours_30 rfl (lv_at hl 2 rfl) ?_
        refine lv_iload_n hx hb dX10_hours_31 rfl (lv_at hl 1 rfl) ?_
        refine lv_icmp_ge (tgt := 55) hx hb dX10_hours_32 (by decide) (fun c32 => ?_) (fun c32 => ?_)
        ·
          have hEq := cl_ge g0 hi (ex ▸ c32)
          refine lv_aload_n hx hb dX10_hours_55 rfl (lv_at hl 0 rfl) ?_
          refine m_gi (v := sv 1) S hG 1 rfl (hts (.fieldLink RX10 206 "SwarmLineModel" "now" "I") (by decide +kernel)) dX10_hours_56 rfl ?_
          exact m_iret S hr hlocks hG hL dX10_hours_59 (by have q := hF; rw [hEq, Nat.sub_self] at q; simp only [hsX, vHs, eq_false c8, ↓reduceIte]; rw [← q]; try rfl) (by have q := hF; rw [hEq, Nat.sub_self] at q; simp only [hsX, vHs, eq_false c8, ↓reduceIte]; rw [← q]; try rfl) (by have q := hF; rw [hEq, Nat.sub_self] at q; simp only [hsX, vHs, eq_false c8, ↓reduceIte]; rw [← q]; try rfl)
        ·
          have hlt := cl_lt g0 hi (ex ▸ c32)
          refine lv_aload_n hx hb dX10_hours_35 rfl (lv_at hl 0 rfl) ?_
          refine m_gi (v := sv 1) S hG 1 rfl (hts (.fieldLink RX10 206 "SwarmLineModel" "now" "I") (by decide +kernel)) dX10_hours_36 rfl ?_
          refine lv_sipush (v := 743) hx hb dX10_hours_39 (by decide) ?_
          refine lv_icmp_ge (tgt := 55) hx hb dX10_hours_42 (by decide) (fun c42 => ?_) (fun c42 => ?_)
          ·
            refine lv_aload_n hx hb dX10_hours_55 rfl (lv_at hl 0 rfl) ?_
            refine m_gi (v := sv 1) S hG 1 rfl (hts (.fieldLink RX10 206 "SwarmLineModel" "now" "I") (by decide +kernel)) dX10_hours_56 rfl ?_
            exact m_iret S hr hlocks hG hL dX10_hours_59 (by have q := hF; rw [show n_.toNatClampNeg - i = (n_.toNatClampNeg - (i + 1)) + 1 by omega] at q; simp only [hsT, eq_true c42, ↓reduceIte] at q; simp only [hsX, vHs, eq_false c8, ↓reduceIte]; rw [← q]; try rfl) (by have q := hF; rw [show n_.toNatClampNeg - i = (n_.toNatClampNeg - (i + 1)) + 1 by omega] at q; simp only [hsT, eq_true c42, ↓reduceIte] at q; simp only [hsX, vHs, eq_false c8, ↓reduceIte]; rw [← q]; try rfl) (by have q := hF; rw [show n_.toNatClampNeg - i = (n_.toNatClampNeg - (i + 1)) + 1 by omega] at q; simp only [hsT, eq_true c42, ↓reduceIte] at q; simp only [hsX, vHs, eq_false c8, ↓reduceIte]; rw [← q]; try rfl)
          ·
            refine lv_aload_n hx hb dX10_hours_45 rfl (lv_at hl 0 rfl) ?_
            refine m_callV (n := 0) (As := []) (rest := []) (st1 := []) S hG hL (c_X10_hour hlv  sv rv (hH) (hs_lt c42)) gX10_hours_X10_hour rfl (by decide +kernel) ⟨Nat.le_of_ble_eq_true rfl, Nat.le_of_ble_eq_true rfl⟩ rfl hl.1 rfl (Nat.le_of_ble_eq_true rfl) dX10_hours_46 ⟨Nat.zero_le _, Nat.zero_le _⟩ (rfl) (fun H locs hG hL => ?_)
            refine lv_iinc (v := x + 1) (lv' := [(2, .int (x + 1)), (0, .ref (ad 0)), (1, .int n_)]) hx hb dX10_hours_49 hl (k := 2) rfl (by rfl) (by decide) rfl (fun ls hl => ?_)
            refine lv_goto (tgt := 30) hx hb dX10_hours_52 (by decide) ?_
            exact ih  (i + 1) (x + 1) ((hrX sv rv).1) ((hrX sv rv).2) (by rw [ex]; exact nI_1 i) (hlt) (by omega) (by rw [← hF, show n_.toNatClampNeg - i = (n_.toNatClampNeg - (i + 1)) + 1 by omega]; simp only [hsT, eq_false c42, ↓reduceIte]) (hrX_HI hH (hs_lt c42)) _ _ hG hL _ (lv_sub hl [1, 2, 0] rfl)
    exact LP ((n_).toNatClampNeg + 1) 0 0 (upd s 0 0) r (rfl) (Nat.zero_le _) (by omega) (rfl) (hI) _ _ hG hL _ (lv_sub hl [1, 2, 0] rfl)
  ·
    refine lv_iconst (v := 1) hx hb dX10_hours_11 (by decide) ?_
    refine lv_goto (tgt := 16) hx hb dX10_hours_12 (by decide) ?_
    refine m_pi S hG hL 0 rfl (hts (.fieldLink RX10 180 "SwarmLineModel" "thrown" "I") (by decide +kernel)) dX10_hours_16 (fun H locs hG hL => ?_)
    refine lv_aload_n hx hb dX10_hours_19 rfl (lv_at hl 0 rfl) ?_
    refine m_gi (v := 1) S hG 0 rfl (hts (.fieldLink RX10 180 "SwarmLineModel" "thrown" "I") (by decide +kernel)) dX10_hours_20 rfl ?_
    refine lv_if_le (tgt := 28) hx hb dX10_hours_23 (by decide) (fun c => absurd c (by decide)) (fun _ => ?_)
    refine lv_iconst (v := 0) hx hb dX10_hours_26 (by decide) ?_
    exact m_iret S hr hlocks hG hL dX10_hours_27 (by simp only [hsX, vHs, eq_true c8, ↓reduceIte]) (by simp only [hsX, vHs, eq_true c8, ↓reduceIte]) (by simp only [hsX, vHs, eq_true c8, ↓reduceIte])
