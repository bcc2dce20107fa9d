/-! numbers, signs, facts; the turns; sets of keepers -/
theorem ad_b {s : Nat → Int32} {r : Nat → Nat → Int32} (h : tR s) : kBg s r ≤ kBh s r (kBg s r) ∧ kBh s r (kBg s r) ≤ tL s ∧ tL s ≤ 400 ∧ (kKd s r (kBg s r) = 3 → kBg s r < kBh s r (kBg s r)) := by
  have h4 : tL s ≤ 400 := t_ixl h.1 h.2.1
  have h0 : (s 102).toNatClampNeg ≤ tL s := by
    have q1 := t_ix h.1
    have q2 := t_ix h.2.2.1
    have q3 := h.2.2.2
    unfold tL; omega
  have hb := (skp_le (r 60) (tL s) (1 + tL s) (s 102).toNatClampNeg).2 h0
  have hb' : kBg s r ≤ tL s := hb
  generalize kBg s r = b at hb' ⊢
  have hw := wen_le (r 60) (tL s) (1 + tL s) b
  have hd := den_le (r 60) (tL s) (1 + tL s) b
  unfold kBh kKd
  by_cases c1 : tL s ≤ b
  · rw [if_pos c1, if_pos c1]
    exact ⟨Nat.le_refl _, hb', h4, fun z => absurd z (by decide)⟩
  · rw [if_neg c1, if_neg c1]
    by_cases c2 : fLe (r 60 b) = 0
    · rw [if_pos c2, if_pos c2]
      by_cases c3 : fDi (r 60 b) = 0
      · rw [if_pos c3, if_pos c3]
        exact ⟨by omega, by omega, h4, fun _ => by omega⟩
      · rw [if_neg c3, if_neg c3]
        exact ⟨hd.1, hd.2 hb', h4, fun z => absurd z (by decide)⟩
    · rw [if_neg c2, if_neg c2]
      exact ⟨hw.1, hw.2 hb', h4, fun z => absurd z (by decide)⟩
def tW (s : Nat → Int32) : Prop := tR s ∧ 0 ≤ (s 101).toInt ∧ (s 101).toInt ≤ (s 102).toInt ∧ (s 103 = 3 → (s 101).toInt < (s 102).toInt)
theorem ad_W {s : Nat → Int32} {r : Nat → Nat → Int32} (h : tR s) : tW (adS s r) := by
  have q := ad_b (r := r) h
  have q1 := t_ix h.1
  have e1 : (adS s r 101).toInt = kBg s r := nI_toInt (by omega)
  have e2 : (adS s r 102).toInt = kBh s r (kBg s r) := nI_toInt (by omega)
  have e3 : adS s r 103 = kKd s r (kBg s r) := rfl
  have e4 : adS s r 61 = s 61 := rfl
  have q2 : (tL s : Int) = (s 61).toInt := q1
  refine ⟨⟨?_, ?_, ?_, ?_⟩, ?_, ?_, ?_⟩
  · rw [e4]; exact h.1
  · rw [e4]; exact h.2.1
  · rw [e2]; omega
  · rw [e2, e4]; omega
  · rw [e1]; omega
  · rw [e1, e2]; omega
  · intro z
    rw [e3] at z
    have := q.2.2.2 z
    rw [e1, e2]; omega
theorem ad_R {s : Nat → Int32} {r : Nat → Nat → Int32} (h : tR s) : tR (adS s r) := (ad_W h).1
theorem kL.up {lv : Nat → Prop} {s : Nat → Int32} (h : kL lv s) {f : Nat} (hf : 100 ≤ f) (v : Int32) : kL lv (upd s f v) := by
  have e : ∀ g, g < 100 → upd s f v g = s g := fun g hg => by simp [upd, show ¬ g = f by omega]
  unfold kL
  rw [e 6 (by decide), e 14 (by decide), e 26 (by decide), e 39 (by decide)]
  exact h
theorem kL.ad {lv : Nat → Prop} {s : Nat → Int32} (h : kL lv s) (r : Nat → Nat → Int32) : kL lv (adS s r) := (((h.up (by decide) _).up (by decide) _).up (by decide) _).up (by decide) _
theorem tR_up {s : Nat → Int32} (h : tR s) {f : Nat} (h1 : ¬ f = 61) (h2 : ¬ f = 102) (v : Int32) : tR (upd s f v) := by
  have e1 : upd s f v 61 = s 61 := by { have q : ¬ 61 = f := fun z => h1 z.symm; simp [upd, q] }
  have e2 : upd s f v 102 = s 102 := by { have q : ¬ 102 = f := fun z => h2 z.symm; simp [upd, q] }
  unfold tR
  rw [e1, e2]
  exact h
def kB8 (r : Nat → Nat → Int32) : Nat → Int32 := fun j => (r 60 j).toInt8.toInt32
def valF (t : Nat → Int32) (b : Nat) : Nat → Nat → Int32 → Int32
  | 0, _, v => v
  | n + 1, i, v => if b ≤ i then v else valF t b n (i + 1) (v * 10 + t i - 48)
def vVa (s : Nat → Int32) (r : Nat → Nat → Int32) : Int32 := if s 103 = 2 then (if s 102 - s 101 ≤ 3 then valF (kB8 r) (s 102).toNatClampNeg (1 + (s 102).toNatClampNeg) (s 101).toNatClampNeg 0 else -1) else -1
def kNw (lo hi : Int32) (s : Nat → Int32) (r : Nat → Nat → Int32) : Int32 := if vVa s r = -1 then 0 else if fIn (vVa s r) lo hi = 0 then 0 else 1
def kSg (c : Int32) (s : Nat → Int32) (r : Nat → Nat → Int32) : Int32 := if s 103 = 3 then (if (r 60 (Int32.toNatClampNeg (s 101))).toInt8.toInt32 = c then 1 else 0) else 0
def rnV (lo hi : Int32) (s : Nat → Int32) (r : Nat → Nat → Int32) : Int32 := if kNw lo hi (adS s r) r = 0 then -1 else vVa (adS s r) r
abbrev FS : Type := Int32 × (Nat → Int32)
def rfX (f : Nat) (lo hi : Int32) (s : Nat → Int32) (r : Nat → Nat → Int32) : FS := (if rnV lo hi s r = -1 then 0 else 1, upd (adS s r) f (rnV lo hi s r))
def rpX (s : Nat → Int32) (r : Nat → Nat → Int32) : FS := if rnV 0 19 s r = -1 then (0, upd (adS s r) 104 (rnV 0 19 s r)) else rfX 105 0 19 (upd (adS s r) 104 (rnV 0 19 s r)) r
theorem rfX_01 (f : Nat) (lo hi : Int32) (s : Nat → Int32) (r : Nat → Nat → Int32) : (rfX f lo hi s r).1 = 0 ∨ (rfX f lo hi s r).1 = 1 := by
  unfold rfX
  show (if _ then _ else _) = _ ∨ (if _ then _ else _) = _
  split
  · exact Or.inl rfl
  · exact Or.inr rfl
def mlA (i : Nat) (s : Nat → Int32) (r : Nat → Nat → Int32) : Nat → Nat → Int32 := if s 109 = 0 then (if r 44 i = 0 then up2 (up2 (up2 r 42 i (s 104)) 43 i (s 105)) 44 i 1 else r) else r
def mlH (i : Nat) (s : Nat → Int32) (r : Nat → Nat → Int32) : Int32 := if r 45 i < s 106 then s 106 else r 45 i
def mlC (i : Nat) (s : Nat → Int32) (r : Nat → Nat → Int32) : Nat → Nat → Int32 := if s 107 = -1 then up2 r 45 i (mlH i s r) else if r 46 i = -1 then up2 (up2 r 45 i (mlH i s r)) 46 i (s 107) else if r 46 i ≤ s 107 then up2 r 45 i (mlH i s r) else up2 (up2 r 45 i (mlH i s r)) 46 i (s 107)
def mlD (i : Nat) (s : Nat → Int32) (r : Nat → Nat → Int32) : Nat → Nat → Int32 := if r 47 i = 0 then up2 r 47 i (s 108) else r
def mlE (i : Nat) (n : Int32) (r : Nat → Nat → Int32) : Nat → Nat → Int32 := up2 (up2 r 48 i (r 48 i + 1)) 49 i n
def mlR (i : Nat) (n : Int32) (s : Nat → Int32) (r : Nat → Nat → Int32) : Nat → Nat → Int32 := mlE i n (mlD i s (mlC i s (mlA i s r)))
def kSz (l : Int32) (r : Nat → Nat → Int32) : Int32 := if fIn l 0 16 = 0 then 0 else r 101 (Int32.toNatClampNeg l)
def kLf (d : Int32) (r : Nat → Nat → Int32) : Int32 := if kSz d r ≤ 0 then 16 else d
def kKa (l i : Int32) (r : Nat → Nat → Int32) : Int32 := if i < 0 then -1 else if kSz l r ≤ i then -1 else r (110 + Int32.toNatClampNeg l) (Int32.toNatClampNeg i)
theorem kSz_in {l : Int32} {r : Nat → Nat → Int32} {i : Int32} (h0 : ¬ i < 0) (h : ¬ kSz l r ≤ i) : ¬ fIn l 0 16 = 0 := by
  intro z
  unfold kSz at h
  rw [if_pos z, t_le, t_0] at h
  rw [t_lt, t_0] at h0
  omega
def u32 (x k : Int32) : Int32 := (x.toUInt32 >>> (Int32.toUInt32 k &&& Int32.toUInt32 31)).toInt32
def kB1 (x : Int32) : Int32 := x - (u32 x 1 &&& 1431655765)
def kB2 (x : Int32) : Int32 := (x &&& 858993459) + (u32 x 2 &&& 858993459)
def kB3 (x : Int32) : Int32 := (x + u32 x 4) &&& 252645135
def kB4 (x : Int32) : Int32 := x + u32 x 8
def kB5 (x : Int32) : Int32 := x + u32 x 16
def kBc (x : Int32) : Int32 := kB5 (kB4 (kB3 (kB2 (kB1 x)))) &&& 63
def gmI (r : Nat → Nat → Int32) (m x : Int32) : Nat → Int32 × Int32
  | 0 => (m, 0)
  | n + 1 => if (x >>> (nI n &&& 31)) &&& 1 = 1 then ((gmI r m x n).1 + (-1), (gmI r m x n).2 ||| r 100 n) else gmI r m x n
def gmV (r : Nat → Nat → Int32) (m x : Int32) : Int32 := (gmI r m x m.toNatClampNeg).1 + kBc (gmI r m x m.toNatClampNeg).2
def gmO (r : Nat → Nat → Int32) (m : Int32) : Nat → Int32
  | 0 => m
  | n + 1 => if gmV r m (nI n) < gmO r m n then gmV r m (nI n) else gmO r m n

set_option maxHeartbeats 800000 in
set_option maxRecDepth 100000 in
theorem c_X7_value {l : Launch} {D : va_G} {cI cZ cB cO cR cJ : ClassId} {Hb : Heap} {K : kTx} {lv : Nat → Prop} {ad : Nat → Nat} {ce0 : Nat → va_E} (s : Nat → Int32) (r : Nat → Nat → Int32) (hlv : kL lv s)  (hB : tW s) : kMet l D cI cZ cB cO cR cJ Hb K lv ad ce0 yX7_value wsX7_value 0 0 [.ref (ad 101)] s r (some (.int (vVa s r))) s r := by
  refine Met.ofW (cc := cX7_value) (maxL := 3) (ret := (some .int)) (by decide) rfl ?_
  intro p0 e0 s0 m0 args below meth c0 s₁ B hml hv
  obtain ⟨rfl, hG, hK, hE⟩ := hv
  have hx := B.exec
  have hb := B.bytes
  have hr := B.returns
  have hts := atoms_spec (ws := wsX7_value) B.pre
  have hown : s0.vm.findClass RX7 = some m0.cls := findClass_of_methodNamed B.named
  have hlocks := B.notSynchronized
  have S : kX p0 m0 c0 cX7_value 3 s0 _ wsX7_value RX7 D (tyL cI cZ cB cO cR cJ) Hb K := ⟨⟨hx, hb, hml, hown, hts⟩, hK, hE⟩
  have hL : gL Hb [] := gL.nil
  have hH := hG.2.2.2.2
  have hl := lv_entry ([.ref (ad 101)]) (n := 3) (Nat.le_of_ble_eq_true rfl)
  rw [lg_entry_eq]
  generalize (lg_sl ([.ref (ad 101)]) ++ List.replicate (3 - (lg_sl ([.ref (ad 101)])).length) Slot.unset).toArray = ls at hl ⊢
  have hl : lv_has ls 3 [(0, .ref (ad 101))] := hl
  refine lv_aload_n hx hb dX7_value_0 rfl (lv_at hl 0 rfl) ?_
  refine k_gi (C := RX7) (T := TX7) (N := 5) (ci := 8) (v := s 103) S hG (fun w h => List.mem_cons_of_mem _ (List.mem_append_right _ h)) 101 (hlv.f (by decide) (by decide)) rfl rfl 4 (by decide) rfl (hts (.fieldLink RX7 25 "SwarmLine$Tape" "kind" "I") (by decide +kernel)) rfl (rfl) dX7_value_1 ?_
  refine lv_iconst (v := 2) hx hb dX7_value_4 (by decide) ?_
  refine lv_icmp_ne (tgt := 21) hx hb dX7_value_5 (by decide) (fun c5 => ?_) (fun c5 => ?_)
  ·
    refine lv_iconst (v := (-1)) hx hb dX7_value_21 (by decide) ?_
    exact g_iret S.1 hr hlocks hG hL (congrArg (fun z => some (Value.int z)) (by simp only [vVa, eq_false c5, if_true, if_false])) (congr (congrArg (kJ ce0 ad K.2.2.1 cI cB cO cR) (by rfl)) (by rfl)) dX7_value_22
  ·
    refine lv_aload_n hx hb dX7_value_8 rfl (lv_at hl 0 rfl) ?_
    refine k_gi (C := RX7) (T := TX7) (N := 5) (ci := 8) (v := s 102) S hG (fun w h => List.mem_cons_of_mem _ (List.mem_append_right _ h)) 101 (hlv.f (by decide) (by decide)) rfl rfl 3 (by decide) rfl (hts (.fieldLink RX7 22 "SwarmLine$Tape" "behind" "I") (by decide +kernel)) rfl (rfl) dX7_value_9 ?_
    refine lv_aload_n hx hb dX7_value_12 rfl (lv_at hl 0 rfl) ?_
    refine k_gi (C := RX7) (T := TX7) (N := 5) (ci := 8) (v := s 101) S hG (fun w h => List.mem_cons_of_mem _ (List.mem_append_right _ h)) 101 (hlv.f (by decide) (by decide)) rfl rfl 2 (by decide) rfl (hts (.fieldLink RX7 19 "SwarmLine$Tape" "begin" "I") (by decide +kernel)) rfl (rfl) dX7_value_13 ?_
    refine lv_isub hx hb dX7_value_16 ?_
    refine lv_iconst (v := 3) hx hb dX7_value_17 (by decide) ?_
    refine lv_icmp_le (tgt := 23) hx hb dX7_value_18 (by decide) (fun c18 => ?_) (fun c18 => ?_)
    ·
      refine lv_iconst (v := 0) hx hb dX7_value_23 (by decide) ?_
      refine lv_istore_n (lv' := [(1, .int 0), (0, .ref (ad 101))]) hx hb dX7_value_24 rfl hl (by decide) rfl (fun ls hl => ?_)
      refine lv_aload_n hx hb dX7_value_25 rfl (lv_at hl 1 rfl) ?_
      refine k_gi (C := RX7) (T := TX7) (N := 5) (ci := 8) (v := s 101) S hG (fun w h => List.mem_cons_of_mem _ (List.mem_append_right _ h)) 101 (hlv.f (by decide) (by decide)) rfl rfl 2 (by decide) rfl (hts (.fieldLink RX7 19 "SwarmLine$Tape" "begin" "I") (by decide +kernel)) rfl (rfl) dX7_value_26 ?_
      refine lv_istore_n (lv' := [(2, .int (s 101)), (1, .int 0), (0, .ref (ad 101))]) hx hb dX7_value_29 rfl hl (by decide) rfl (fun ls hl => ?_)
      have LP : ∀ (n : Nat) (i : Nat) (x : Int32) (v : Int32) (ex : x = nI i) (hi : i ≤ (s 102).toNatClampNeg) (hn : (s 102).toNatClampNeg + 1 ≤ i + n) (hF : valF (kB8 r) (s 102).toNatClampNeg n i v = valF (kB8 r) (s 102).toNatClampNeg (1 + (s 102).toNatClampNeg) (s 101).toNatClampNeg 0), ∀ (H : Heap) (locs : List Loc), gW D Hb lv ad (kJ ce0 ad K.2.2.1 cI cB cO cR s r) H → gL Hb locs → ∀ (ls : Array Slot), lv_has ls 3 [(0, .ref (ad 101)), (1, .int v), (2, .int x)] → W p0 l e0 (headSpec wsX7_value { frames := 0, cells := 0, slots := 0, locals := 0 }).room s0 m0 ([.ref (ad 101)] : List Value).toArray below meth c0 H locs 0 0 (MQ below (gQ D Hb lv ad (some (.int (vVa s r))) (kJ ce0 ad K.2.2.1 cI cB cO cR s r)) ([.ref (ad 101)] : List Value).toArray s0 0 0 (gA Hb)) (F0 m0 30 ls []) := by
        intro n
        induction n with
        | zero => intro i x v ex hi hn hF; exact absurd hn (by omega)
        | succ n ih =>
          intro i x v ex hi hn hF H locs hG hL ls hl
          have hbd : (s 102).toNatClampNeg ≤ 400 := t_ixl hB.1.2.2.1 (by have q := hB.1.2.2.2; have q2 := hB.1.2.1; omega); have hii : Int32.toNatClampNeg x = i := by { rw [ex]; exact ix_nI (by omega) }
          refine lv_iload_n hx hb dX7_value_30 rfl (lv_at hl 2 rfl) ?_
          refine lv_aload_n hx hb dX7_value_31 rfl (lv_at hl 0 rfl) ?_
          refine k_gi (C := RX7) (T := TX7) (N := 5) (ci := 8) (v := s 102) S hG (fun w h => List.mem_cons_of_mem _ (List.mem_append_right _ h)) 101 (hlv.f (by decide) (by decide)) rfl rfl 3 (by decide) rfl (hts (.fieldLink RX7 22 "SwarmLine$Tape" "behind" "I") (by decide +kernel)) rfl (rfl) dX7_value_32 ?_
          refine lv_icmp_ge (tgt := 59) hx hb dX7_value_35 (by decide) (fun c35 => ?_) (fun c35 => ?_)
          ·
            have hEq := cl_ge hB.1.2.2.1 hi (ex ▸ c35)
            refine lv_iload_n hx hb dX7_value_59 rfl (lv_at hl 1 rfl) ?_
            exact g_iret S.1 hr hlocks hG hL (congrArg (fun z => some (Value.int z)) (by simp only [vVa, eq_true c5, eq_true c18, if_true]; rw [← hF]; simp only [valF, eq_true (show (s 102).toNatClampNeg ≤ i by omega), ↓reduceIte])) (congr (congrArg (kJ ce0 ad K.2.2.1 cI cB cO cR) (by rfl)) (by rfl)) dX7_value_60
          ·
            have hlt := cl_lt hB.1.2.2.1 hi (ex ▸ c35)
            refine lv_iload_n hx hb dX7_value_38 rfl (lv_at hl 1 rfl) ?_
            refine lv_bipush (v := 10) hx hb dX7_value_39 (by decide) ?_
            refine lv_imul hx hb dX7_value_41 ?_
            refine lv_aload_n hx hb dX7_value_42 rfl (lv_at hl 0 rfl) ?_
            refine k_ga (C := RX7) (T := TX7) (N := 5) (ci := 8) (v := .ref (ad 112)) S hG (fun w h => List.mem_cons_of_mem _ (List.mem_append_right _ h)) 101 (hlv.f (by decide) (by decide)) rfl rfl 0 (by decide) rfl (hts (.fieldLink RX7 11 "SwarmLine$Tape" "bytes" "[B") (by decide +kernel)) rfl dX7_value_43 ?_
            refine lv_iload_n hx hb dX7_value_46 rfl (lv_at hl 2 rfl) ?_
            refine k_bld (j := i) (v := (r 60 i).toInt8.toInt32) S hG 112 (hlv.f (by decide) (by decide)) rfl hii (show vp_in x 400 from by rw [ex]; exact vp_in_i (by omega) (by omega)) (rfl) dX7_value_47 ?_
            refine lv_iadd hx hb dX7_value_48 ?_
            refine lv_bipush (v := 48) hx hb dX7_value_49 (by decide) ?_
            refine lv_isub hx hb dX7_value_51 ?_
            refine lv_istore_n (lv' := [(1, .int (((v * 10) + ((r 60 i).toInt8.toInt32)) - 48)), (0, .ref (ad 101)), (2, .int x)]) hx hb dX7_value_52 rfl hl (by decide) rfl (fun ls hl => ?_)
            refine lv_iinc (v := x + 1) (lv' := [(2, .int (x + 1)), (1, .int (((v * 10) + ((r 60 i).toInt8.toInt32)) - 48)), (0, .ref (ad 101))]) hx hb dX7_value_53 hl (k := 2) rfl (by rfl) (by decide) rfl (fun ls hl => ?_)
            refine lv_goto (tgt := 30) hx hb dX7_value_56 (by decide) ?_
            exact ih  (i + 1) (x + 1) (((v * 10) + ((r 60 i).toInt8.toInt32)) - 48) (by rw [ex]; exact nI_1 i) (hlt) (by omega) (by rw [← hF]; simp only [valF, eq_false (show ¬ (s 102).toNatClampNeg ≤ i by omega), ↓reduceIte]; rfl) _ _ hG hL _ (lv_sub hl [2, 1, 0] rfl)
      exact LP (1 + (s 102).toNatClampNeg) ((s 101).toNatClampNeg) (s 101) 0 ((t_ixn hB.2.1).symm) (by { have q1 := t_ix hB.2.1; have q2 := t_ix hB.1.2.2.1; have q3 := hB.2.2.1; omega }) (by omega) (rfl) _ _ hG hL _ (lv_sub hl [2, 1, 0] rfl)
    ·
      refine lv_iconst (v := (-1)) hx hb dX7_value_21 (by decide) ?_
      exact g_iret S.1 hr hlocks hG hL (congrArg (fun z => some (Value.int z)) (by simp only [vVa, eq_true c5, eq_false c18, if_true, if_false])) (congr (congrArg (kJ ce0 ad K.2.2.1 cI cB cO cR) (by rfl)) (by rfl)) dX7_value_22

set_option maxHeartbeats 800000 in
set_option maxRecDepth 100000 in
theorem c_X7_isNumberWithin {l : Launch} {D : va_G} {cI cZ cB cO cR cJ : ClassId} {Hb : Heap} {K : kTx} {lv : Nat → Prop} {ad : Nat → Nat} {ce0 : Nat → va_E} (s : Nat → Int32) (r : Nat → Nat → Int32) (hlv : kL lv s) (lo : Int32) (hi : Int32) (hB : tW s) : kMet l D cI cZ cB cO cR cJ Hb K lv ad ce0 yX7_isNumberWithin wsX7_isNumberWithin 1 22 [.ref (ad 101), .int lo, .int hi] s r (some (.int (kNw lo hi s r))) s r := by
  refine Met.ofW (cc := cX7_isNumberWithin) (maxL := 4) (ret := (some .boolean)) (by decide) rfl ?_
  intro p0 e0 s0 m0 args below meth c0 s₁ B hml hv
  obtain ⟨rfl, hG, hK, hE⟩ := hv
  have hx := B.exec
  have hb := B.bytes
  have hr := B.returns
  have hts := atoms_spec (ws := wsX7_isNumberWithin) B.pre
  have hown : s0.vm.findClass RX7 = some m0.cls := findClass_of_methodNamed B.named
  have hlocks := B.notSynchronized
  have S : kX p0 m0 c0 cX7_isNumberWithin 4 s0 _ wsX7_isNumberWithin RX7 D (tyL cI cZ cB cO cR cJ) Hb K := ⟨⟨hx, hb, hml, hown, hts⟩, hK, hE⟩
  have hL : gL Hb [] := gL.nil
  have hH := hG.2.2.2.2
  have hl := lv_entry ([.ref (ad 101), .int lo, .int hi]) (n := 4) (Nat.le_of_ble_eq_true rfl)
  rw [lg_entry_eq]
  generalize (lg_sl ([.ref (ad 101), .int lo, .int hi]) ++ List.replicate (4 - (lg_sl ([.ref (ad 101), .int lo, .int hi])).length) Slot.unset).toArray = ls at hl ⊢
  have hl : lv_has ls 4 [(0, .ref (ad 101)), (1, .int lo), (2, .int hi)] := hl
  refine lv_aload_n hx hb dX7_isNumberWithin_0 rfl (lv_at hl 0 rfl) ?_
  refine k_callV (n := 0) (As := []) (rest := []) (st1 := .int (vVa s r) :: []) (k := 101) (ci := 8) S hG hL (hlv.f (by decide) (by decide)) rfl rfl (c_X7_value s r hlv   (hB)) gX7_isNumberWithin_X7_value rfl ⟨rfl, rfl⟩ (by decide +kernel) ⟨Nat.le_of_ble_eq_true rfl, Nat.le_of_ble_eq_true rfl⟩ rfl hl.1 rfl (Nat.le_of_ble_eq_true rfl) dX7_isNumberWithin_1 ⟨Nat.zero_le _, Nat.zero_le _⟩ (rfl) (fun H locs hG hL => ?_)
  refine lv_istore_n (lv' := [(3, .int (vVa s r)), (0, .ref (ad 101)), (1, .int lo), (2, .int hi)]) hx hb dX7_isNumberWithin_4 rfl hl (by decide) rfl (fun ls hl => ?_)
  refine lv_iload_n hx hb dX7_isNumberWithin_5 rfl (lv_at hl 0 rfl) ?_
  refine lv_iconst (v := (-1)) hx hb dX7_isNumberWithin_6 (by decide) ?_
  refine lv_icmp_eq (tgt := 23) hx hb dX7_isNumberWithin_7 (by decide) (fun c7 => ?_) (fun c7 => ?_)
  ·
    refine lv_iconst (v := 0) hx hb dX7_isNumberWithin_23 (by decide) ?_
    exact g_zret S.1 hr hlocks (by decide) hG hL (congrArg (fun z => some (Value.int z)) (by simp only [kNw, eq_true c7, if_true, if_false])) (congr (congrArg (kJ ce0 ad K.2.2.1 cI cB cO cR) (by rfl)) (by rfl)) dX7_isNumberWithin_24
  ·
    refine lv_iload_n hx hb dX7_isNumberWithin_10 rfl (lv_at hl 0 rfl) ?_
    refine lv_iload_n hx hb dX7_isNumberWithin_11 rfl (lv_at hl 2 rfl) ?_
    refine lv_iload_n hx hb dX7_isNumberWithin_12 rfl (lv_at hl 3 rfl) ?_
    refine k_callPN (n := 3) (As := [.int (vVa s r), .int lo, .int hi]) (rest := []) (st1 := .int (fIn (vVa s r) lo hi) :: []) S (c_X9_isWithin (vVa s r) lo hi) gX7_isNumberWithin_X9_isWithin_n43 rfl (by decide +kernel) (hts (.initialized RX9) (by decide +kernel)) (hts (.static yX9_isWithin) (by decide +kernel)) (by decide +kernel) ⟨Nat.le_of_ble_eq_true rfl, Nat.le_of_ble_eq_true rfl⟩ rfl hl.1 rfl (Nat.le_of_ble_eq_true rfl) dX7_isNumberWithin_13 ⟨Nat.zero_le _, Nat.zero_le _⟩ (rfl) ?_
    refine lv_if_eq (tgt := 23) hx hb dX7_isNumberWithin_16 (by decide) (fun c16 => ?_) (fun c16 => ?_)
    ·
      refine lv_iconst (v := 0) hx hb dX7_isNumberWithin_23 (by decide) ?_
      exact g_zret S.1 hr hlocks (by decide) hG hL (congrArg (fun z => some (Value.int z)) (by simp only [kNw, eq_false c7, eq_true c16, if_true, if_false])) (congr (congrArg (kJ ce0 ad K.2.2.1 cI cB cO cR) (by rfl)) (by rfl)) dX7_isNumberWithin_24
    ·
      refine lv_iconst (v := 1) hx hb dX7_isNumberWithin_19 (by decide) ?_
      refine lv_goto (tgt := 24) hx hb dX7_isNumberWithin_20 (by decide) ?_
      exact g_zret S.1 hr hlocks (by decide) hG hL (congrArg (fun z => some (Value.int z)) (by simp only [kNw, eq_false c7, eq_false c16, if_true, if_false])) (congr (congrArg (kJ ce0 ad K.2.2.1 cI cB cO cR) (by rfl)) (by rfl)) dX7_isNumberWithin_24

set_option maxHeartbeats 800000 in
set_option maxRecDepth 100000 in
theorem c_X7_isSign {l : Launch} {D : va_G} {cI cZ cB cO cR cJ : ClassId} {Hb : Heap} {K : kTx} {lv : Nat → Prop} {ad : Nat → Nat} {ce0 : Nat → va_E} (s : Nat → Int32) (r : Nat → Nat → Int32) (hlv : kL lv s) (c : Int32) (hB : tW s) : kMet l D cI cZ cB cO cR cJ Hb K lv ad ce0 yX7_isSign wsX7_isSign 0 0 [.ref (ad 101), .int c] s r (some (.int (kSg c s r))) s r := by
  refine Met.ofW (cc := cX7_isSign) (maxL := 2) (ret := (some .boolean)) (by decide) rfl ?_
  intro p0 e0 s0 m0 args below meth c0 s₁ B hml hv
  obtain ⟨rfl, hG, hK, hE⟩ := hv
  have hx := B.exec
  have hb := B.bytes
  have hr := B.returns
  have hts := atoms_spec (ws := wsX7_isSign) B.pre
  have hown : s0.vm.findClass RX7 = some m0.cls := findClass_of_methodNamed B.named
  have hlocks := B.notSynchronized
  have S : kX p0 m0 c0 cX7_isSign 2 s0 _ wsX7_isSign RX7 D (tyL cI cZ cB cO cR cJ) Hb K := ⟨⟨hx, hb, hml, hown, hts⟩, hK, hE⟩
  have hL : gL Hb [] := gL.nil
  have hH := hG.2.2.2.2
  have hl := lv_entry ([.ref (ad 101), .int c]) (n := 2) (Nat.le_of_ble_eq_true rfl)
  rw [lg_entry_eq]
  generalize (lg_sl ([.ref (ad 101), .int c]) ++ List.replicate (2 - (lg_sl ([.ref (ad 101), .int c])).length) Slot.unset).toArray = ls at hl ⊢
  have hl : lv_has ls 2 [(0, .ref (ad 101)), (1, .int c)] := hl
  refine lv_aload_n hx hb dX7_isSign_0 rfl (lv_at hl 0 rfl) ?_
  refine k_gi (C := RX7) (T := TX7) (N := 5) (ci := 8) (v := s 103) S hG (fun w h => List.mem_cons_of_mem _ (List.mem_append_right _ h)) 101 (hlv.f (by decide) (by decide)) rfl rfl 4 (by decide) rfl (hts (.fieldLink RX7 25 "SwarmLine$Tape" "kind" "I") (by decide +kernel)) rfl (rfl) dX7_isSign_1 ?_
  refine lv_iconst (v := 3) hx hb dX7_isSign_4 (by decide) ?_
  refine lv_icmp_ne (tgt := 25) hx hb dX7_isSign_5 (by decide) (fun c5 => ?_) (fun c5 => ?_)
  ·
    refine lv_iconst (v := 0) hx hb dX7_isSign_25 (by decide) ?_
    exact g_zret S.1 hr hlocks (by decide) hG hL (congrArg (fun z => some (Value.int z)) (by simp only [kSg, eq_false c5, if_true, if_false])) (congr (congrArg (kJ ce0 ad K.2.2.1 cI cB cO cR) (by rfl)) (by rfl)) dX7_isSign_26
  ·
    refine lv_aload_n hx hb dX7_isSign_8 rfl (lv_at hl 0 rfl) ?_
    refine k_ga (C := RX7) (T := TX7) (N := 5) (ci := 8) (v := .ref (ad 112)) S hG (fun w h => List.mem_cons_of_mem _ (List.mem_append_right _ h)) 101 (hlv.f (by decide) (by decide)) rfl rfl 0 (by decide) rfl (hts (.fieldLink RX7 11 "SwarmLine$Tape" "bytes" "[B") (by decide +kernel)) rfl dX7_isSign_9 ?_
    refine lv_aload_n hx hb dX7_isSign_12 rfl (lv_at hl 0 rfl) ?_
    refine k_gi (C := RX7) (T := TX7) (N := 5) (ci := 8) (v := s 101) S hG (fun w h => List.mem_cons_of_mem _ (List.mem_append_right _ h)) 101 (hlv.f (by decide) (by decide)) rfl rfl 2 (by decide) rfl (hts (.fieldLink RX7 19 "SwarmLine$Tape" "begin" "I") (by decide +kernel)) rfl (rfl) dX7_isSign_13 ?_
    refine k_bld (j := Int32.toNatClampNeg (s 101)) (v := (r 60 (Int32.toNatClampNeg (s 101))).toInt8.toInt32) S hG 112 (hlv.f (by decide) (by decide)) rfl rfl (show vp_in (s 101) 400 from vp_in_t hB.2.1 (by have q := hB.2.2.2 c5; have q2 := hB.1.2.2.2; have q3 := hB.1.2.1; omega)) (rfl) dX7_isSign_16 ?_
    refine lv_iload_n hx hb dX7_isSign_17 rfl (lv_at hl 1 rfl) ?_
    refine lv_icmp_ne (tgt := 25) hx hb dX7_isSign_18 (by decide) (fun c18 => ?_) (fun c18 => ?_)
    ·
      refine lv_iconst (v := 0) hx hb dX7_isSign_25 (by decide) ?_
      exact g_zret S.1 hr hlocks (by decide) hG hL (congrArg (fun z => some (Value.int z)) (by simp only [kSg, eq_true c5, eq_false c18, if_true, if_false])) (congr (congrArg (kJ ce0 ad K.2.2.1 cI cB cO cR) (by rfl)) (by rfl)) dX7_isSign_26
    ·
      refine lv_iconst (v := 1) hx hb dX7_isSign_21 (by decide) ?_
      refine lv_goto (tgt := 26) hx hb dX7_isSign_22 (by decide) ?_
      exact g_zret S.1 hr hlocks (by decide) hG hL (congrArg (fun z => some (Value.int z)) (by simp only [kSg, eq_true c5, eq_true c18, if_true, if_false])) (congr (congrArg (kJ ce0 ad K.2.2.1 cI cB cO cR) (by rfl)) (by rfl)) dX7_isSign_26

set_option maxHeartbeats 800000 in
set_option maxRecDepth 100000 in
theorem c_X2_readNumber {l : Launch} {D : va_G} {cI cZ cB cO cR cJ : ClassId} {Hb : Heap} {K : kTx} {lv : Nat → Prop} {ad : Nat → Nat} {ce0 : Nat → va_E} (s : Nat → Int32) (r : Nat → Nat → Int32) (hlv : kL lv s) (lo : Int32) (hi : Int32) (hB : tR s) (hT : hTp r) : kMet l D cI cZ cB cO cR cJ Hb K lv ad ce0 yX2_readNumber wsX2_readNumber 2 45 [.ref (ad 101), .int lo, .int hi] s r (some (.int (rnV lo hi s r))) (adS s r) r := by
  refine Met.ofW (cc := cX2_readNumber) (maxL := 3) (ret := (some .int)) (by decide) rfl ?_
  intro p0 e0 s0 m0 args below meth c0 s₁ B hml hv
  obtain ⟨rfl, hG, hK, hE⟩ := hv
  have hx := B.exec
  have hb := B.bytes
  have hr := B.returns
  have hts := atoms_spec (ws := wsX2_readNumber) B.pre
  have hown : s0.vm.findClass RX2 = some m0.cls := findClass_of_methodNamed B.named
  have hlocks := B.notSynchronized
  have S : kX p0 m0 c0 cX2_readNumber 3 s0 _ wsX2_readNumber RX2 D (tyL cI cZ cB cO cR cJ) Hb K := ⟨⟨hx, hb, hml, hown, hts⟩, hK, hE⟩
  have hL : gL Hb [] := gL.nil
  have hH := hG.2.2.2.2
  have hl := lv_entry ([.ref (ad 101), .int lo, .int hi]) (n := 3) (Nat.le_of_ble_eq_true rfl)
  rw [lg_entry_eq]
  generalize (lg_sl ([.ref (ad 101), .int lo, .int hi]) ++ List.replicate (3 - (lg_sl ([.ref (ad 101), .int lo, .int hi])).length) Slot.unset).toArray = ls at hl ⊢
  have hl : lv_has ls 3 [(0, .ref (ad 101)), (1, .int lo), (2, .int hi)] := hl
  refine lv_aload_n hx hb dX2_readNumber_0 rfl (lv_at hl 0 rfl) ?_
  refine k_callV (n := 0) (As := []) (rest := []) (st1 := []) (k := 101) (ci := 8) S hG hL (hlv.f (by decide) (by decide)) rfl rfl (c_X7_advance s r hlv   (hB) (hT)) gX2_readNumber_X7_advance rfl ⟨rfl, rfl⟩ (by decide +kernel) ⟨Nat.le_of_ble_eq_true rfl, Nat.le_of_ble_eq_true rfl⟩ rfl hl.1 rfl (Nat.le_of_ble_eq_true rfl) dX2_readNumber_1 ⟨Nat.zero_le _, Nat.zero_le _⟩ (rfl) (fun H locs hG hL => ?_)
  refine lv_aload_n hx hb dX2_readNumber_4 rfl (lv_at hl 0 rfl) ?_
  refine lv_iload_n hx hb dX2_readNumber_5 rfl (lv_at hl 1 rfl) ?_
  refine lv_iload_n hx hb dX2_readNumber_6 rfl (lv_at hl 2 rfl) ?_
  refine k_callV (n := 2) (As := [.int lo, .int hi]) (rest := []) (st1 := .int (kNw lo hi (adS s r) r) :: []) (k := 101) (ci := 8) S hG hL (hlv.f (by decide) (by decide)) rfl rfl (c_X7_isNumberWithin (adS s r) r (hlv.ad r)  lo hi (ad_W hB)) gX2_readNumber_X7_isNumberWithin rfl ⟨rfl, rfl⟩ (by decide +kernel) ⟨Nat.le_of_ble_eq_true rfl, Nat.le_of_ble_eq_true rfl⟩ rfl hl.1 rfl (Nat.le_of_ble_eq_true rfl) dX2_readNumber_7 ⟨Nat.zero_le _, Nat.zero_le _⟩ (rfl) (fun H locs hG hL => ?_)
  refine lv_if_eq (tgt := 20) hx hb dX2_readNumber_10 (by decide) (fun c10 => ?_) (fun c10 => ?_)
  ·
    refine lv_iconst (v := (-1)) hx hb dX2_readNumber_20 (by decide) ?_
    exact g_iret S.1 hr hlocks hG hL (congrArg (fun z => some (Value.int z)) (by simp only [rnV, eq_true c10, if_true, if_false])) (congr (congrArg (kJ ce0 ad K.2.2.1 cI cB cO cR) (by rfl)) (by rfl)) dX2_readNumber_21
  ·
    refine lv_aload_n hx hb dX2_readNumber_13 rfl (lv_at hl 0 rfl) ?_
    refine k_callV (n := 0) (As := []) (rest := []) (st1 := .int (vVa (adS s r) r) :: []) (k := 101) (ci := 8) S hG hL (hlv.f (by decide) (by decide)) rfl rfl (c_X7_value (adS s r) r (hlv.ad r)   (ad_W hB)) gX2_readNumber_X7_value rfl ⟨rfl, rfl⟩ (by decide +kernel) ⟨Nat.le_of_ble_eq_true rfl, Nat.le_of_ble_eq_true rfl⟩ rfl hl.1 rfl (Nat.le_of_ble_eq_true rfl) dX2_readNumber_14 ⟨Nat.zero_le _, Nat.zero_le _⟩ (rfl) (fun H locs hG hL => ?_)
    refine lv_goto (tgt := 21) hx hb dX2_readNumber_17 (by decide) ?_
    exact g_iret S.1 hr hlocks hG hL (congrArg (fun z => some (Value.int z)) (by simp only [rnV, eq_false c10, if_true, if_false])) (congr (congrArg (kJ ce0 ad K.2.2.1 cI cB cO cR) (by rfl)) (by rfl)) dX2_readNumber_21

set_option maxHeartbeats 800000 in
set_option maxRecDepth 100000 in
theorem c_X2_readHigh {l : Launch} {D : va_G} {cI cZ cB cO cR cJ : ClassId} {Hb : Heap} {K : kTx} {lv : Nat → Prop} {ad : Nat → Nat} {ce0 : Nat → va_E} (s : Nat → Int32) (r : Nat → Nat → Int32) (hlv : kL lv s)  (hB : tR s) (hT : hTp r) : kMet l D cI cZ cB cO cR cJ Hb K lv ad ce0 yX2_readHigh wsX2_readHigh 3 67 [.ref (ad 102), .ref (ad 101)] s r (some (.int ((rfX 106 1 9 s r).1))) ((rfX 106 1 9 s r).2) r := by
  refine Met.ofW (cc := cX2_readHigh) (maxL := 2) (ret := (some .boolean)) (by decide) rfl ?_
  intro p0 e0 s0 m0 args below meth c0 s₁ B hml hv
  obtain ⟨rfl, hG, hK, hE⟩ := hv
  have hx := B.exec
  have hb := B.bytes
  have hr := B.returns
  have hts := atoms_spec (ws := wsX2_readHigh) B.pre
  have hown : s0.vm.findClass RX2 = some m0.cls := findClass_of_methodNamed B.named
  have hlocks := B.notSynchronized
  have S : kX p0 m0 c0 cX2_readHigh 2 s0 _ wsX2_readHigh RX2 D (tyL cI cZ cB cO cR cJ) Hb K := ⟨⟨hx, hb, hml, hown, hts⟩, hK, hE⟩
  have hL : gL Hb [] := gL.nil
  have hH := hG.2.2.2.2
  have hl := lv_entry ([.ref (ad 102), .ref (ad 101)]) (n := 2) (Nat.le_of_ble_eq_true rfl)
  rw [lg_entry_eq]
  generalize (lg_sl ([.ref (ad 102), .ref (ad 101)]) ++ List.replicate (2 - (lg_sl ([.ref (ad 102), .ref (ad 101)])).length) Slot.unset).toArray = ls at hl ⊢
  have hl : lv_has ls 2 [(0, .ref (ad 102)), (1, .ref (ad 101))] := hl
  refine lv_aload_n hx hb dX2_readHigh_0 rfl (lv_at hl 0 rfl) ?_
  refine lv_aload_n hx hb dX2_readHigh_1 rfl (lv_at hl 1 rfl) ?_
  refine lv_iconst (v := 1) hx hb dX2_readHigh_2 (by decide) ?_
  refine lv_bipush (v := 9) hx hb dX2_readHigh_3 (by decide) ?_
  refine k_callS (n := 3) (As := [.ref (ad 101), .int 1, .int 9]) (rest := [.ref (ad 102)]) (st1 := .int (rnV 1 9 s r) :: [.ref (ad 102)]) S hG hL (c_X2_readNumber s r hlv   1 9 (hB) (hT)) gX2_readHigh_X2_readNumber rfl ⟨rfl, rfl⟩ (by decide +kernel) ⟨Nat.le_of_ble_eq_true rfl, Nat.le_of_ble_eq_true rfl⟩ rfl hl.1 rfl (Nat.le_of_ble_eq_true rfl) dX2_readHigh_5 ⟨Nat.zero_le _, Nat.zero_le _⟩ (rfl) (fun H locs hG hL => ?_)
  refine k_pi (C := RX2) (T := TX2) (N := 6) (ci := 3) (ty := .int) S hG hL (fun w h => List.mem_cons_of_mem _ (List.mem_append_left _ (List.mem_append_right _ h))) tyX2 tyX2_ok nmX2 102 (hlv.f (by decide) (by decide)) rfl rfl 2 (by decide) rfl (hts (.fieldLink RX2 41 "SwarmLine$Facts" "high" "I") (by decide +kernel)) rfl (by decide +kernel) rfl rfl (Nat.le_of_ble_eq_true rfl) (kw_102_high _) dX2_readHigh_8 (fun H locs hG hL => ?_)
  refine lv_aload_n hx hb dX2_readHigh_11 rfl (lv_at hl 0 rfl) ?_
  refine k_gi (C := RX2) (T := TX2) (N := 6) (ci := 3) (v := rnV 1 9 s r) S hG (fun w h => List.mem_cons_of_mem _ (List.mem_append_left _ (List.mem_append_right _ h))) 102 (hlv.f (by decide) (by decide)) rfl rfl 2 (by decide) rfl (hts (.fieldLink RX2 41 "SwarmLine$Facts" "high" "I") (by decide +kernel)) rfl (rfl) dX2_readHigh_12 ?_
  refine lv_iconst (v := (-1)) hx hb dX2_readHigh_15 (by decide) ?_
  refine lv_icmp_eq (tgt := 23) hx hb dX2_readHigh_16 (by decide) (fun c16 => ?_) (fun c16 => ?_)
  ·
    refine lv_iconst (v := 0) hx hb dX2_readHigh_23 (by decide) ?_
    exact g_zret S.1 hr hlocks (by decide) hG hL (congrArg (fun z => some (Value.int z)) (by simp only [rfX, eq_true c16, if_true, if_false])) (congr (congrArg (kJ ce0 ad K.2.2.1 cI cB cO cR) (by rfl)) (by rfl)) dX2_readHigh_24
  ·
    refine lv_iconst (v := 1) hx hb dX2_readHigh_19 (by decide) ?_
    refine lv_goto (tgt := 24) hx hb dX2_readHigh_20 (by decide) ?_
    exact g_zret S.1 hr hlocks (by decide) hG hL (congrArg (fun z => some (Value.int z)) (by simp only [rfX, eq_false c16, if_true, if_false])) (congr (congrArg (kJ ce0 ad K.2.2.1 cI cB cO cR) (by rfl)) (by rfl)) dX2_readHigh_24

set_option maxHeartbeats 800000 in
set_option maxRecDepth 100000 in
theorem c_X2_readSince {l : Launch} {D : va_G} {cI cZ cB cO cR cJ : ClassId} {Hb : Heap} {K : kTx} {lv : Nat → Prop} {ad : Nat → Nat} {ce0 : Nat → va_E} (s : Nat → Int32) (r : Nat → Nat → Int32) (hlv : kL lv s) (now : Int32) (hB : tR s) (hT : hTp r) : kMet l D cI cZ cB cO cR cJ Hb K lv ad ce0 yX2_readSince wsX2_readSince 3 67 [.ref (ad 102), .ref (ad 101), .int now] s r (some (.int ((rfX 107 0 now s r).1))) ((rfX 107 0 now s r).2) r := by
  refine Met.ofW (cc := cX2_readSince) (maxL := 3) (ret := (some .boolean)) (by decide) rfl ?_
  intro p0 e0 s0 m0 args below meth c0 s₁ B hml hv
  obtain ⟨rfl, hG, hK, hE⟩ := hv
  have hx := B.exec
  have hb := B.bytes
  have hr := B.returns
  have hts := atoms_spec (ws := wsX2_readSince) B.pre
  have hown : s0.vm.findClass RX2 = some m0.cls := findClass_of_methodNamed B.named
  have hlocks := B.notSynchronized
  have S : kX p0 m0 c0 cX2_readSince 3 s0 _ wsX2_readSince RX2 D (tyL cI cZ cB cO cR cJ) Hb K := ⟨⟨hx, hb, hml, hown, hts⟩, hK, hE⟩
  have hL : gL Hb [] := gL.nil
  have hH := hG.2.2.2.2
  have hl := lv_entry ([.ref (ad 102), .ref (ad 101), .int now]) (n := 3) (Nat.le_of_ble_eq_true rfl)
  rw [lg_entry_eq]
  generalize (lg_sl ([.ref (ad 102), .ref (ad 101), .int now]) ++ List.replicate (3 - (lg_sl ([.ref (ad 102), .ref (ad 101), .int now])).length) Slot.unset).toArray = ls at hl ⊢
  have hl : lv_has ls 3 [(0, .ref (ad 102)), (1, .ref (ad 101)), (2, .int now)] := hl
  refine lv_aload_n hx hb dX2_readSince_0 rfl (lv_at hl 0 rfl) ?_
  refine lv_aload_n hx hb dX2_readSince_1 rfl (lv_at hl 1 rfl) ?_
  refine lv_iconst (v := 0) hx hb dX2_readSince_2 (by decide) ?_
  refine lv_iload_n hx hb dX2_readSince_3 rfl (lv_at hl 2 rfl) ?_
  refine k_callS (n := 3) (As := [.ref (ad 101), .int 0, .int now]) (rest := [.ref (ad 102)]) (st1 := .int (rnV 0 now s r) :: [.ref (ad 102)]) S hG hL (c_X2_readNumber s r hlv   0 now (hB) (hT)) gX2_readSince_X2_readNumber rfl ⟨rfl, rfl⟩ (by decide +kernel) ⟨Nat.le_of_ble_eq_true rfl, Nat.le_of_ble_eq_true rfl⟩ rfl hl.1 rfl (Nat.le_of_ble_eq_true rfl) dX2_readSince_4 ⟨Nat.zero_le _, Nat.zero_le _⟩ (rfl) (fun H locs hG hL => ?_)
  refine k_pi (C := RX2) (T := TX2) (N := 6) (ci := 3) (ty := .int) S hG hL (fun w h => List.mem_cons_of_mem _ (List.mem_append_left _ (List.mem_append_right _ h))) tyX2 tyX2_ok nmX2 102 (hlv.f (by decide) (by decide)) rfl rfl 3 (by decide) rfl (hts (.fieldLink RX2 44 "SwarmLine$Facts" "since" "I") (by decide +kernel)) rfl (by decide +kernel) rfl rfl (Nat.le_of_ble_eq_true rfl) (kw_102_since _) dX2_readSince_7 (fun H locs hG hL => ?_)
  refine lv_aload_n hx hb dX2_readSince_10 rfl (lv_at hl 0 rfl) ?_
  refine k_gi (C := RX2) (T := TX2) (N := 6) (ci := 3) (v := rnV 0 now s r) S hG (fun w h => List.mem_cons_of_mem _ (List.mem_append_left _ (List.mem_append_right _ h))) 102 (hlv.f (by decide) (by decide)) rfl rfl 3 (by decide) rfl (hts (.fieldLink RX2 44 "SwarmLine$Facts" "since" "I") (by decide +kernel)) rfl (rfl) dX2_readSince_11 ?_
  refine lv_iconst (v := (-1)) hx hb dX2_readSince_14 (by decide) ?_
  refine lv_icmp_eq (tgt := 22) hx hb dX2_readSince_15 (by decide) (fun c15 => ?_) (fun c15 => ?_)
  ·
    refine lv_iconst (v := 0) hx hb dX2_readSince_22 (by decide) ?_
    exact g_zret S.1 hr hlocks (by decide) hG hL (congrArg (fun z => some (Value.int z)) (by simp only [rfX, eq_true c15, if_true, if_false])) (congr (congrArg (kJ ce0 ad K.2.2.1 cI cB cO cR) (by rfl)) (by rfl)) dX2_readSince_23
  ·
    refine lv_iconst (v := 1) hx hb dX2_readSince_18 (by decide) ?_
    refine lv_goto (tgt := 23) hx hb dX2_readSince_19 (by decide) ?_
    exact g_zret S.1 hr hlocks (by decide) hG hL (congrArg (fun z => some (Value.int z)) (by simp only [rfX, eq_false c15, if_true, if_false])) (congr (congrArg (kJ ce0 ad K.2.2.1 cI cB cO cR) (by rfl)) (by rfl)) dX2_readSince_23

set_option maxHeartbeats 800000 in
set_option maxRecDepth 100000 in
theorem c_X2_readMark {l : Launch} {D : va_G} {cI cZ cB cO cR cJ : ClassId} {Hb : Heap} {K : kTx} {lv : Nat → Prop} {ad : Nat → Nat} {ce0 : Nat → va_E} (s : Nat → Int32) (r : Nat → Nat → Int32) (hlv : kL lv s)  (hB : tR s) (hT : hTp r) : kMet l D cI cZ cB cO cR cJ Hb K lv ad ce0 yX2_readMark wsX2_readMark 3 67 [.ref (ad 102), .ref (ad 101)] s r (some (.int ((rfX 108 1 7 s r).1))) ((rfX 108 1 7 s r).2) r := by
  refine Met.ofW (cc := cX2_readMark) (maxL := 2) (ret := (some .boolean)) (by decide) rfl ?_
  intro p0 e0 s0 m0 args below meth c0 s₁ B hml hv
  obtain ⟨rfl, hG, hK, hE⟩ := hv
  have hx := B.exec
  have hb := B.bytes
  have hr := B.returns
  have hts := atoms_spec (ws := wsX2_readMark) B.pre
  have hown : s0.vm.findClass RX2 = some m0.cls := findClass_of_methodNamed B.named
  have hlocks := B.notSynchronized
  have S : kX p0 m0 c0 cX2_readMark 2 s0 _ wsX2_readMark RX2 D (tyL cI cZ cB cO cR cJ) Hb K := ⟨⟨hx, hb, hml, hown, hts⟩, hK, hE⟩
  have hL : gL Hb [] := gL.nil
  have hH := hG.2.2.2.2
  have hl := lv_entry ([.ref (ad 102), .ref (ad 101)]) (n := 2) (Nat.le_of_ble_eq_true rfl)
  rw [lg_entry_eq]
  generalize (lg_sl ([.ref (ad 102), .ref (ad 101)]) ++ List.replicate (2 - (lg_sl ([.ref (ad 102), .ref (ad 101)])).length) Slot.unset).toArray = ls at hl ⊢
  have hl : lv_has ls 2 [(0, .ref (ad 102)), (1, .ref (ad 101))] := hl
  refine lv_aload_n hx hb dX2_readMark_0 rfl (lv_at hl 0 rfl) ?_
  refine lv_aload_n hx hb dX2_readMark_1 rfl (lv_at hl 1 rfl) ?_
  refine lv_iconst (v := 1) hx hb dX2_readMark_2 (by decide) ?_
  refine lv_bipush (v := 7) hx hb dX2_readMark_3 (by decide) ?_
  refine k_callS (n := 3) (As := [.ref (ad 101), .int 1, .int 7]) (rest := [.ref (ad 102)]) (st1 := .int (rnV 1 7 s r) :: [.ref (ad 102)]) S hG hL (c_X2_readNumber s r hlv   1 7 (hB) (hT)) gX2_readMark_X2_readNumber rfl ⟨rfl, rfl⟩ (by decide +kernel) ⟨Nat.le_of_ble_eq_true rfl, Nat.le_of_ble_eq_true rfl⟩ rfl hl.1 rfl (Nat.le_of_ble_eq_true rfl) dX2_readMark_5 ⟨Nat.zero_le _, Nat.zero_le _⟩ (rfl) (fun H locs hG hL => ?_)
  refine k_pi (C := RX2) (T := TX2) (N := 6) (ci := 3) (ty := .int) S hG hL (fun w h => List.mem_cons_of_mem _ (List.mem_append_left _ (List.mem_append_right _ h))) tyX2 tyX2_ok nmX2 102 (hlv.f (by decide) (by decide)) rfl rfl 4 (by decide) rfl (hts (.fieldLink RX2 47 "SwarmLine$Facts" "mark" "I") (by decide +kernel)) rfl (by decide +kernel) rfl rfl (Nat.le_of_ble_eq_true rfl) (kw_102_mark _) dX2_readMark_8 (fun H locs hG hL => ?_)
  refine lv_aload_n hx hb dX2_readMark_11 rfl (lv_at hl 0 rfl) ?_
  refine k_gi (C := RX2) (T := TX2) (N := 6) (ci := 3) (v := rnV 1 7 s r) S hG (fun w h => List.mem_cons_of_mem _ (List.mem_append_left _ (List.mem_append_right _ h))) 102 (hlv.f (by decide) (by decide)) rfl rfl 4 (by decide) rfl (hts (.fieldLink RX2 47 "SwarmLine$Facts" "mark" "I") (by decide +kernel)) rfl (rfl) dX2_readMark_12 ?_
  refine lv_iconst (v := (-1)) hx hb dX2_readMark_15 (by decide) ?_
  refine lv_icmp_eq (tgt := 23) hx hb dX2_readMark_16 (by decide) (fun c16 => ?_) (fun c16 => ?_)
  ·
    refine lv_iconst (v := 0) hx hb dX2_readMark_23 (by decide) ?_
    exact g_zret S.1 hr hlocks (by decide) hG hL (congrArg (fun z => some (Value.int z)) (by simp only [rfX, eq_true c16, if_true, if_false])) (congr (congrArg (kJ ce0 ad K.2.2.1 cI cB cO cR) (by rfl)) (by rfl)) dX2_readMark_24
  ·
    refine lv_iconst (v := 1) hx hb dX2_readMark_19 (by decide) ?_
    refine lv_goto (tgt := 24) hx hb dX2_readMark_20 (by decide) ?_
    exact g_zret S.1 hr hlocks (by decide) hG hL (congrArg (fun z => some (Value.int z)) (by simp only [rfX, eq_false c16, if_true, if_false])) (congr (congrArg (kJ ce0 ad K.2.2.1 cI cB cO cR) (by rfl)) (by rfl)) dX2_readMark_24

set_option maxHeartbeats 800000 in
set_option maxRecDepth 100000 in
theorem c_X2_readPlace {l : Launch} {D : va_G} {cI cZ cB cO cR cJ : ClassId} {Hb : Heap} {K : kTx} {lv : Nat → Prop} {ad : Nat → Nat} {ce0 : Nat → va_E} (s : Nat → Int32) (r : Nat → Nat → Int32) (hlv : kL lv s)  (hB : tR s) (hT : hTp r) : kMet l D cI cZ cB cO cR cJ Hb K lv ad ce0 yX2_readPlace wsX2_readPlace 3 67 [.ref (ad 102), .ref (ad 101)] s r (some (.int ((rpX s r).1))) ((rpX s r).2) r := by
  refine Met.ofW (cc := cX2_readPlace) (maxL := 2) (ret := (some .boolean)) (by decide) rfl ?_
  intro p0 e0 s0 m0 args below meth c0 s₁ B hml hv
  obtain ⟨rfl, hG, hK, hE⟩ := hv
  have hx := B.exec
  have hb := B.bytes
  have hr := B.returns
  have hts := atoms_spec (ws := wsX2_readPlace) B.pre
  have hown : s0.vm.findClass RX2 = some m0.cls := findClass_of_methodNamed B.named
  have hlocks := B.notSynchronized
  have S : kX p0 m0 c0 cX2_readPlace 2 s0 _ wsX2_readPlace RX2 D (tyL cI cZ cB cO cR cJ) Hb K := ⟨⟨hx, hb, hml, hown, hts⟩, hK, hE⟩
  have hL : gL Hb [] := gL.nil
  have hH := hG.2.2.2.2
  have hl := lv_entry ([.ref (ad 102), .ref (ad 101)]) (n := 2) (Nat.le_of_ble_eq_true rfl)
  rw [lg_entry_eq]
  generalize (lg_sl ([.ref (ad 102), .ref (ad 101)]) ++ List.replicate (2 - (lg_sl ([.ref (ad 102), .ref (ad 101)])).length) Slot.unset).toArray = ls at hl ⊢
  have hl : lv_has ls 2 [(0, .ref (ad 102)), (1, .ref (ad 101))] := hl
  refine lv_aload_n hx hb dX2_readPlace_0 rfl (lv_at hl 0 rfl) ?_
  refine lv_aload_n hx hb dX2_readPlace_1 rfl (lv_at hl 1 rfl) ?_
  refine lv_iconst (v := 0) hx hb dX2_readPlace_2 (by decide) ?_
  refine lv_bipush (v := 19) hx hb dX2_readPlace_3 (by decide) ?_
  refine k_callS (n := 3) (As := [.ref (ad 101), .int 0, .int 19]) (rest := [.ref (ad 102)]) (st1 := .int (rnV 0 19 s r) :: [.ref (ad 102)]) S hG hL (c_X2_readNumber s r hlv   0 19 (hB) (hT)) gX2_readPlace_X2_readNumber rfl ⟨rfl, rfl⟩ (by decide +kernel) ⟨Nat.le_of_ble_eq_true rfl, Nat.le_of_ble_eq_true rfl⟩ rfl hl.1 rfl (Nat.le_of_ble_eq_true rfl) dX2_readPlace_5 ⟨Nat.zero_le _, Nat.zero_le _⟩ (rfl) (fun H locs hG hL => ?_)
  refine k_pi (C := RX2) (T := TX2) (N := 6) (ci := 3) (ty := .int) S hG hL (fun w h => List.mem_cons_of_mem _ (List.mem_append_left _ (List.mem_append_right _ h))) tyX2 tyX2_ok nmX2 102 (hlv.f (by decide) (by decide)) rfl rfl 0 (by decide) rfl (hts (.fieldLink RX2 34 "SwarmLine$Facts" "x" "I") (by decide +kernel)) rfl (by decide +kernel) rfl rfl (Nat.le_of_ble_eq_true rfl) (kw_102_x _) dX2_readPlace_8 (fun H locs hG hL => ?_)
  refine lv_aload_n hx hb dX2_readPlace_11 rfl (lv_at hl 0 rfl) ?_
  refine k_gi (C := RX2) (T := TX2) (N := 6) (ci := 3) (v := rnV 0 19 s r) S hG (fun w h => List.mem_cons_of_mem _ (List.mem_append_left _ (List.mem_append_right _ h))) 102 (hlv.f (by decide) (by decide)) rfl rfl 0 (by decide) rfl (hts (.fieldLink RX2 34 "SwarmLine$Facts" "x" "I") (by decide +kernel)) rfl (rfl) dX2_readPlace_12 ?_
  refine lv_iconst (v := (-1)) hx hb dX2_readPlace_15 (by decide) ?_
  refine lv_icmp_ne (tgt := 21) hx hb dX2_readPlace_16 (by decide) (fun c16 => ?_) (fun c16 => ?_)
  ·
    refine lv_aload_n hx hb dX2_readPlace_21 rfl (lv_at hl 0 rfl) ?_
    refine lv_aload_n hx hb dX2_readPlace_22 rfl (lv_at hl 1 rfl) ?_
    refine lv_iconst (v := 0) hx hb dX2_readPlace_23 (by decide) ?_
    refine lv_bipush (v := 19) hx hb dX2_readPlace_24 (by decide) ?_
    refine k_callS (n := 3) (As := [.ref (ad 101), .int 0, .int 19]) (rest := [.ref (ad 102)]) (st1 := .int (rnV 0 19 (upd (adS s r) 104 (rnV 0 19 s r)) r) :: [.ref (ad 102)]) S hG hL (c_X2_readNumber (upd (adS s r) 104 (rnV 0 19 s r)) r ((hlv.ad r).up (by decide) _)   0 19 (tR_up (ad_R hB) (by decide) (by decide) _) (hT)) gX2_readPlace_X2_readNumber rfl ⟨rfl, rfl⟩ (by decide +kernel) ⟨Nat.le_of_ble_eq_true rfl, Nat.le_of_ble_eq_true rfl⟩ rfl hl.1 rfl (Nat.le_of_ble_eq_true rfl) dX2_readPlace_26 ⟨Nat.zero_le _, Nat.zero_le _⟩ (rfl) (fun H locs hG hL => ?_)
    refine k_pi (C := RX2) (T := TX2) (N := 6) (ci := 3) (ty := .int) S hG hL (fun w h => List.mem_cons_of_mem _ (List.mem_append_left _ (List.mem_append_right _ h))) tyX2 tyX2_ok nmX2 102 (hlv.f (by decide) (by decide)) rfl rfl 1 (by decide) rfl (hts (.fieldLink RX2 38 "SwarmLine$Facts" "y" "I") (by decide +kernel)) rfl (by decide +kernel) rfl rfl (Nat.le_of_ble_eq_true rfl) (kw_102_y _) dX2_readPlace_29 (fun H locs hG hL => ?_)
    refine lv_aload_n hx hb dX2_readPlace_32 rfl (lv_at hl 0 rfl) ?_
    refine k_gi (C := RX2) (T := TX2) (N := 6) (ci := 3) (v := rnV 0 19 (upd (adS s r) 104 (rnV 0 19 s r)) r) S hG (fun w h => List.mem_cons_of_mem _ (List.mem_append_left _ (List.mem_append_right _ h))) 102 (hlv.f (by decide) (by decide)) rfl rfl 1 (by decide) rfl (hts (.fieldLink RX2 38 "SwarmLine$Facts" "y" "I") (by decide +kernel)) rfl (rfl) dX2_readPlace_33 ?_
    refine lv_iconst (v := (-1)) hx hb dX2_readPlace_36 (by decide) ?_
    refine lv_icmp_eq (tgt := 44) hx hb dX2_readPlace_37 (by decide) (fun c37 => ?_) (fun c37 => ?_)
    ·
      refine lv_iconst (v := 0) hx hb dX2_readPlace_44 (by decide) ?_
      exact g_zret S.1 hr hlocks (by decide) hG hL (congrArg (fun z => some (Value.int z)) (by simp only [rpX, rfX, eq_false c16, eq_true c37, if_true, if_false])) (congr (congrArg (kJ ce0 ad K.2.2.1 cI cB cO cR) (by simp only [rpX, rfX, eq_false c16, eq_true c37, if_true, if_false])) (by rfl)) dX2_readPlace_45
    ·
      refine lv_iconst (v := 1) hx hb dX2_readPlace_40 (by decide) ?_
      refine lv_goto (tgt := 45) hx hb dX2_readPlace_41 (by decide) ?_
      exact g_zret S.1 hr hlocks (by decide) hG hL (congrArg (fun z => some (Value.int z)) (by simp only [rpX, rfX, eq_false c16, eq_false c37, if_true, if_false])) (congr (congrArg (kJ ce0 ad K.2.2.1 cI cB cO cR) (by simp only [rpX, rfX, eq_false c16, eq_false c37, if_true, if_false])) (by rfl)) dX2_readPlace_45
  ·
    refine lv_iconst (v := 0) hx hb dX2_readPlace_19 (by decide) ?_
    exact g_zret S.1 hr hlocks (by decide) hG hL (congrArg (fun z => some (Value.int z)) (by simp only [rpX, rfX, eq_true c16, if_true, if_false])) (congr (congrArg (kJ ce0 ad K.2.2.1 cI cB cO cR) (by simp only [rpX, rfX, eq_true c16, if_true, if_false])) (by rfl)) dX2_readPlace_20

set_option maxHeartbeats 800000 in
set_option maxRecDepth 100000 in
theorem c_X1_melt {l : Launch} {D : va_G} {cI cZ cB cO cR cJ : ClassId} {Hb : Heap} {K : kTx} {lv : Nat → Prop} {ad : Nat → Nat} {ce0 : Nat → va_E} (s : Nat → Int32) (r : Nat → Nat → Int32) (hlv : kL lv s) (i : Nat) (hi : i < (s 39).toNatClampNeg) (hi9 : i < 1000) (n : Int32)  : kMet l D cI cZ cB cO cR cJ Hb K lv ad ce0 yX1_melt wsX1_melt 1 24 [.ref (ad (4000 + i)), .ref (ad 102), .int n] s r none s (mlR i n s r) := by
  refine Met.ofW (cc := cX1_melt) (maxL := 3) (ret := none) (by decide) rfl ?_
  intro p0 e0 s0 m0 args below meth c0 s₁ B hml hv
  obtain ⟨rfl, hG, hK, hE⟩ := hv
  have hx := B.exec
  have hb := B.bytes
  have hr := B.returns
  have hts := atoms_spec (ws := wsX1_melt) B.pre
  have hown : s0.vm.findClass RX1 = some m0.cls := findClass_of_methodNamed B.named
  have hlocks := B.notSynchronized
  have S : kX p0 m0 c0 cX1_melt 3 s0 _ wsX1_melt RX1 D (tyL cI cZ cB cO cR cJ) Hb K := ⟨⟨hx, hb, hml, hown, hts⟩, hK, hE⟩
  have hL : gL Hb [] := gL.nil
  have hH := hG.2.2.2.2
  have hl := lv_entry ([.ref (ad (4000 + i)), .ref (ad 102), .int n]) (n := 3) (Nat.le_of_ble_eq_true rfl)
  rw [lg_entry_eq]
  generalize (lg_sl ([.ref (ad (4000 + i)), .ref (ad 102), .int n]) ++ List.replicate (3 - (lg_sl ([.ref (ad (4000 + i)), .ref (ad 102), .int n])).length) Slot.unset).toArray = ls at hl ⊢
  have hl : lv_has ls 3 [(0, .ref (ad (4000 + i))), (1, .ref (ad 102)), (2, .int n)] := hl
  have LA : ∀ (rv : Nat → Nat → Int32) (hA : rv = mlA i s r), ∀ (H : Heap) (locs : List Loc), gW D Hb lv ad (kJ ce0 ad K.2.2.1 cI cB cO cR s rv) H → gL Hb locs → ∀ (ls : Array Slot), lv_has ls 3 [(0, .ref (ad (4000 + i))), (1, .ref (ad 102)), (2, .int n)] → W p0 l e0 (headSpec wsX1_melt { frames := 1, cells := 0, slots := 0, locals := 24 }).room s0 m0 ([.ref (ad (4000 + i)), .ref (ad 102), .int n] : List Value).toArray below meth c0 H locs 0 0 (MQ below (gQ D Hb lv ad none (kJ ce0 ad K.2.2.1 cI cB cO cR s (mlR i n s r))) ([.ref (ad (4000 + i)), .ref (ad 102), .int n] : List Value).toArray s0 0 0 (gA Hb)) (F0 m0 35 ls []) := by
    intro rv hA H locs hG hL ls hl
    have LB : ∀ (rw : Nat → Nat → Int32) (hC : rw = mlC i s (mlA i s r)), ∀ (H : Heap) (locs : List Loc), gW D Hb lv ad (kJ ce0 ad K.2.2.1 cI cB cO cR s rw) H → gL Hb locs → ∀ (ls : Array Slot), lv_has ls 3 [(0, .ref (ad (4000 + i))), (1, .ref (ad 102)), (2, .int n)] → W p0 l e0 (headSpec wsX1_melt { frames := 1, cells := 0, slots := 0, locals := 24 }).room s0 m0 ([.ref (ad (4000 + i)), .ref (ad 102), .int n] : List Value).toArray below meth c0 H locs 0 0 (MQ below (gQ D Hb lv ad none (kJ ce0 ad K.2.2.1 cI cB cO cR s (mlR i n s r))) ([.ref (ad (4000 + i)), .ref (ad 102), .int n] : List Value).toArray s0 0 0 (gA Hb)) (F0 m0 85 ls []) := by
      intro rw hC H locs hG hL ls hl
      have LC : ∀ (ry : Nat → Nat → Int32) (hD : ry = mlD i s (mlC i s (mlA i s r))), ∀ (H : Heap) (locs : List Loc), gW D Hb lv ad (kJ ce0 ad K.2.2.1 cI cB cO cR s ry) H → gL Hb locs → ∀ (ls : Array Slot), lv_has ls 3 [(0, .ref (ad (4000 + i))), (1, .ref (ad 102)), (2, .int n)] → W p0 l e0 (headSpec wsX1_melt { frames := 1, cells := 0, slots := 0, locals := 24 }).room s0 m0 ([.ref (ad (4000 + i)), .ref (ad 102), .int n] : List Value).toArray below meth c0 H locs 0 0 (MQ below (gQ D Hb lv ad none (kJ ce0 ad K.2.2.1 cI cB cO cR s (mlR i n s r))) ([.ref (ad (4000 + i)), .ref (ad 102), .int n] : List Value).toArray s0 0 0 (gA Hb)) (F0 m0 100 ls []) := by
        intro ry hD H locs hG hL ls hl
        refine lv_aload_n hx hb dX1_melt_100 rfl (lv_at hl 0 rfl) ?_
        refine lv_dup hx hb dX1_melt_101 rfl ?_
        refine k_gi (C := RX1) (T := TX1) (N := 11) (ci := 2) (v := ry 48 i) S hG (fun w h => List.mem_cons_of_mem _ (List.mem_append_right _ h)) (4000 + i) (hlv.ca hi) (kJ_ca hi9) rfl 7 (by decide) rfl (hts (.fieldLink RX1 28 "SwarmLine$Case" "callsMelted" "I") (by decide +kernel)) rfl (rfl) dX1_melt_102 ?_
        refine lv_iconst (v := 1) hx hb dX1_melt_105 (by decide) ?_
        refine lv_iadd hx hb dX1_melt_106 ?_
        refine k_pi (C := RX1) (T := TX1) (N := 11) (ci := 2) (ty := .int) S hG hL (fun w h => List.mem_cons_of_mem _ (List.mem_append_right _ h)) tyX1 tyX1_ok nmX1 (4000 + i) (hlv.ca hi) (kJ_ca hi9) rfl 7 (by decide) rfl (hts (.fieldLink RX1 28 "SwarmLine$Case" "callsMelted" "I") (by decide +kernel)) rfl (by decide +kernel) rfl rfl (Nat.le_of_ble_eq_true rfl) (kw_ca_callsMelted hi9 _) dX1_melt_107 (fun H locs hG hL => ?_)
        refine lv_aload_n hx hb dX1_melt_110 rfl (lv_at hl 0 rfl) ?_
        refine lv_iload_n hx hb dX1_melt_111 rfl (lv_at hl 2 rfl) ?_
        refine k_pi (C := RX1) (T := TX1) (N := 11) (ci := 2) (ty := .int) S hG hL (fun w h => List.mem_cons_of_mem _ (List.mem_append_right _ h)) tyX1 tyX1_ok nmX1 (4000 + i) (hlv.ca hi) (kJ_ca hi9) rfl 8 (by decide) rfl (hts (.fieldLink RX1 31 "SwarmLine$Case" "latest" "I") (by decide +kernel)) rfl (by decide +kernel) rfl rfl (Nat.le_of_ble_eq_true rfl) (kw_ca_latest hi9 _) dX1_melt_112 (fun H locs hG hL => ?_)
        exact g_vret S.1 hr hlocks hG hL rfl (congr (congrArg (kJ ce0 ad K.2.2.1 cI cB cO cR) (by rfl)) (by unfold mlR; rw [← hD]; rfl)) dX1_melt_115
      refine lv_aload_n hx hb dX1_melt_85 rfl (lv_at hl 0 rfl) ?_
      refine k_gi (C := RX1) (T := TX1) (N := 11) (ci := 2) (v := rw 47 i) S hG (fun w h => List.mem_cons_of_mem _ (List.mem_append_right _ h)) (4000 + i) (hlv.ca hi) (kJ_ca hi9) rfl 6 (by decide) rfl (hts (.fieldLink RX1 25 "SwarmLine$Case" "mark" "I") (by decide +kernel)) rfl (rfl) dX1_melt_86 ?_
      refine lv_if_ne (tgt := 100) hx hb dX1_melt_89 (by decide) (fun c89 => ?_) (fun c89 => ?_)
      ·
        exact LC  rw (by rw [← hC]; simp only [mlD, eq_false c89, if_true, if_false] <;> rfl) _ _ hG hL _ (lv_sub hl [0, 1, 2] rfl)
      ·
        refine lv_aload_n hx hb dX1_melt_92 rfl (lv_at hl 0 rfl) ?_
        refine lv_aload_n hx hb dX1_melt_93 rfl (lv_at hl 1 rfl) ?_
        refine k_giN (C := RX2) (T := TX2) (N := 6) (ci := 3) (v := s 108) S hG (fun w h => List.mem_cons_of_mem _ (List.mem_append_left _ (List.mem_append_right _ h))) 102 (hlv.f (by decide) (by decide)) rfl rfl 4 (by decide) rfl (by decide +kernel) rfl (rfl) dX1_melt_94 ?_
        refine k_pi (C := RX1) (T := TX1) (N := 11) (ci := 2) (ty := .int) S hG hL (fun w h => List.mem_cons_of_mem _ (List.mem_append_right _ h)) tyX1 tyX1_ok nmX1 (4000 + i) (hlv.ca hi) (kJ_ca hi9) rfl 6 (by decide) rfl (hts (.fieldLink RX1 25 "SwarmLine$Case" "mark" "I") (by decide +kernel)) rfl (by decide +kernel) rfl rfl (Nat.le_of_ble_eq_true rfl) (kw_ca_mark hi9 _) dX1_melt_97 (fun H locs hG hL => ?_)
        exact LC  (up2 rw 47 i (s 108)) (by rw [← hC]; simp only [mlD, eq_true c89, if_true, if_false] <;> rfl) _ _ hG hL _ (lv_sub hl [0, 1, 2] rfl)
    refine lv_aload_n hx hb dX1_melt_35 rfl (lv_at hl 0 rfl) ?_
    refine lv_aload_n hx hb dX1_melt_36 rfl (lv_at hl 0 rfl) ?_
    refine k_gi (C := RX1) (T := TX1) (N := 11) (ci := 2) (v := rv 45 i) S hG (fun w h => List.mem_cons_of_mem _ (List.mem_append_right _ h)) (4000 + i) (hlv.ca hi) (kJ_ca hi9) rfl 4 (by decide) rfl (hts (.fieldLink RX1 19 "SwarmLine$Case" "high" "I") (by decide +kernel)) rfl (rfl) dX1_melt_37 ?_
    refine lv_aload_n hx hb dX1_melt_40 rfl (lv_at hl 1 rfl) ?_
    refine k_giN (C := RX2) (T := TX2) (N := 6) (ci := 3) (v := s 106) S hG (fun w h => List.mem_cons_of_mem _ (List.mem_append_left _ (List.mem_append_right _ h))) 102 (hlv.f (by decide) (by decide)) rfl rfl 2 (by decide) rfl (by decide +kernel) rfl (rfl) dX1_melt_41 ?_
    refine va_mmax hx hb (hml.trans hl.1.symm) hown (hts (.methodLink RX1 59 Lib.Math.max.name) (by decide +kernel)) (hts (.static Lib.Math.max.name) (by decide +kernel)) (hts (.initialized "java/lang/Math") (by decide +kernel)) (hts (.code Lib.Math.max.name Lib.Math.max.code 2 (some .int)) (by decide +kernel)) (Nat.le_of_ble_eq_true rfl) (Nat.le_of_ble_eq_true rfl) (Nat.zero_le _) (Nat.zero_le _) dX1_melt_44 ?_
    refine lv_topi (fun z9 e9 => ?_)
    have e9 : z9 = mlH i s rv := e9.trans (rfl)
    subst e9
    refine k_pi (C := RX1) (T := TX1) (N := 11) (ci := 2) (ty := .int) S hG hL (fun w h => List.mem_cons_of_mem _ (List.mem_append_right _ h)) tyX1 tyX1_ok nmX1 (4000 + i) (hlv.ca hi) (kJ_ca hi9) rfl 4 (by decide) rfl (hts (.fieldLink RX1 19 "SwarmLine$Case" "high" "I") (by decide +kernel)) rfl (by decide +kernel) rfl rfl (Nat.le_of_ble_eq_true rfl) (kw_ca_high hi9 _) dX1_melt_47 (fun H locs hG hL => ?_)
    refine lv_aload_n hx hb dX1_melt_50 rfl (lv_at hl 1 rfl) ?_
    refine k_giN (C := RX2) (T := TX2) (N := 6) (ci := 3) (v := s 107) S hG (fun w h => List.mem_cons_of_mem _ (List.mem_append_left _ (List.mem_append_right _ h))) 102 (hlv.f (by decide) (by decide)) rfl rfl 3 (by decide) rfl (by decide +kernel) rfl (rfl) dX1_melt_51 ?_
    refine lv_iconst (v := (-1)) hx hb dX1_melt_54 (by decide) ?_
    refine lv_icmp_eq (tgt := 85) hx hb dX1_melt_55 (by decide) (fun c55 => ?_) (fun c55 => ?_)
    ·
      exact LB  (up2 rv 45 i (mlH i s rv)) (by rw [← hA]; simp only [mlC, eq_true c55, if_true, if_false] <;> rfl) _ _ hG hL _ (lv_sub hl [0, 1, 2] rfl)
    ·
      refine lv_aload_n hx hb dX1_melt_58 rfl (lv_at hl 0 rfl) ?_
      refine k_gi (C := RX1) (T := TX1) (N := 11) (ci := 2) (v := rv 46 i) S hG (fun w h => List.mem_cons_of_mem _ (List.mem_append_right _ h)) (4000 + i) (hlv.ca hi) (kJ_ca hi9) rfl 5 (by decide) rfl (hts (.fieldLink RX1 22 "SwarmLine$Case" "since" "I") (by decide +kernel)) rfl ((up2_n _ _ _ _ (by decide)).trans (rfl)) dX1_melt_59 ?_
      refine lv_iconst (v := (-1)) hx hb dX1_melt_62 (by decide) ?_
      refine lv_icmp_eq (tgt := 77) hx hb dX1_melt_63 (by decide) (fun c63 => ?_) (fun c63 => ?_)
      ·
        refine lv_aload_n hx hb dX1_melt_77 rfl (lv_at hl 0 rfl) ?_
        refine lv_aload_n hx hb dX1_melt_78 rfl (lv_at hl 1 rfl) ?_
        refine k_giN (C := RX2) (T := TX2) (N := 6) (ci := 3) (v := s 107) S hG (fun w h => List.mem_cons_of_mem _ (List.mem_append_left _ (List.mem_append_right _ h))) 102 (hlv.f (by decide) (by decide)) rfl rfl 3 (by decide) rfl (by decide +kernel) rfl (rfl) dX1_melt_79 ?_
        refine k_pi (C := RX1) (T := TX1) (N := 11) (ci := 2) (ty := .int) S hG hL (fun w h => List.mem_cons_of_mem _ (List.mem_append_right _ h)) tyX1 tyX1_ok nmX1 (4000 + i) (hlv.ca hi) (kJ_ca hi9) rfl 5 (by decide) rfl (hts (.fieldLink RX1 22 "SwarmLine$Case" "since" "I") (by decide +kernel)) rfl (by decide +kernel) rfl rfl (Nat.le_of_ble_eq_true rfl) (kw_ca_since hi9 _) dX1_melt_82 (fun H locs hG hL => ?_)
        exact LB  (up2 (up2 rv 45 i (mlH i s rv)) 46 i (s 107)) (by rw [← hA]; simp only [mlC, eq_false c55, eq_true c63, if_true, if_false] <;> rfl) _ _ hG hL _ (lv_sub hl [0, 1, 2] rfl)
      ·
        refine lv_aload_n hx hb dX1_melt_66 rfl (lv_at hl 1 rfl) ?_
        refine k_giN (C := RX2) (T := TX2) (N := 6) (ci := 3) (v := s 107) S hG (fun w h => List.mem_cons_of_mem _ (List.mem_append_left _ (List.mem_append_right _ h))) 102 (hlv.f (by decide) (by decide)) rfl rfl 3 (by decide) rfl (by decide +kernel) rfl (rfl) dX1_melt_67 ?_
        refine lv_aload_n hx hb dX1_melt_70 rfl (lv_at hl 0 rfl) ?_
        refine k_gi (C := RX1) (T := TX1) (N := 11) (ci := 2) (v := rv 46 i) S hG (fun w h => List.mem_cons_of_mem _ (List.mem_append_right _ h)) (4000 + i) (hlv.ca hi) (kJ_ca hi9) rfl 5 (by decide) rfl (hts (.fieldLink RX1 22 "SwarmLine$Case" "since" "I") (by decide +kernel)) rfl ((up2_n _ _ _ _ (by decide)).trans (rfl)) dX1_melt_71 ?_
        refine lv_icmp_ge (tgt := 85) hx hb dX1_melt_74 (by decide) (fun c74 => ?_) (fun c74 => ?_)
        ·
          exact LB  (up2 rv 45 i (mlH i s rv)) (by rw [← hA]; simp only [mlC, eq_false c55, eq_false c63, eq_true c74, if_true, if_false] <;> rfl) _ _ hG hL _ (lv_sub hl [0, 1, 2] rfl)
        ·
          refine lv_aload_n hx hb dX1_melt_77 rfl (lv_at hl 0 rfl) ?_
          refine lv_aload_n hx hb dX1_melt_78 rfl (lv_at hl 1 rfl) ?_
          refine k_giN (C := RX2) (T := TX2) (N := 6) (ci := 3) (v := s 107) S hG (fun w h => List.mem_cons_of_mem _ (List.mem_append_left _ (List.mem_append_right _ h))) 102 (hlv.f (by decide) (by decide)) rfl rfl 3 (by decide) rfl (by decide +kernel) rfl (rfl) dX1_melt_79 ?_
          refine k_pi (C := RX1) (T := TX1) (N := 11) (ci := 2) (ty := .int) S hG hL (fun w h => List.mem_cons_of_mem _ (List.mem_append_right _ h)) tyX1 tyX1_ok nmX1 (4000 + i) (hlv.ca hi) (kJ_ca hi9) rfl 5 (by decide) rfl (hts (.fieldLink RX1 22 "SwarmLine$Case" "since" "I") (by decide +kernel)) rfl (by decide +kernel) rfl rfl (Nat.le_of_ble_eq_true rfl) (kw_ca_since hi9 _) dX1_melt_82 (fun H locs hG hL => ?_)
          exact LB  (up2 (up2 rv 45 i (mlH i s rv)) 46 i (s 107)) (by rw [← hA]; simp only [mlC, eq_false c55, eq_false c63, eq_false c74, if_true, if_false] <;> rfl) _ _ hG hL _ (lv_sub hl [0, 1, 2] rfl)
  refine lv_aload_n hx hb dX1_melt_0 rfl (lv_at hl 1 rfl) ?_
  refine k_giN (C := RX2) (T := TX2) (N := 6) (ci := 3) (v := s 109) S hG (fun w h => List.mem_cons_of_mem _ (List.mem_append_left _ (List.mem_append_right _ h))) 102 (hlv.f (by decide) (by decide)) rfl rfl 5 (by decide) rfl (by decide +kernel) rfl (rfl) dX1_melt_1 ?_
  refine lv_if_ne (tgt := 35) hx hb dX1_melt_4 (by decide) (fun c4 => ?_) (fun c4 => ?_)
  ·
    exact LA  r (by simp only [mlA, eq_false c4, if_true, if_false]) _ _ hG hL _ (lv_sub hl [0, 1, 2] rfl)
  ·
    refine lv_aload_n hx hb dX1_melt_7 rfl (lv_at hl 0 rfl) ?_
    refine k_gi (C := RX1) (T := TX1) (N := 11) (ci := 2) (v := r 44 i) S hG (fun w h => List.mem_cons_of_mem _ (List.mem_append_right _ h)) (4000 + i) (hlv.ca hi) (kJ_ca hi9) rfl 2 (by decide) rfl (hts (.fieldLink RX1 9 "SwarmLine$Case" "placeIsSure" "Z") (by decide +kernel)) rfl (rfl) dX1_melt_8 ?_
    refine lv_if_ne (tgt := 35) hx hb dX1_melt_11 (by decide) (fun c11 => ?_) (fun c11 => ?_)
    ·
      exact LA  r (by simp only [mlA, eq_true c4, eq_false c11, if_true, if_false]) _ _ hG hL _ (lv_sub hl [0, 1, 2] rfl)
    ·
      refine lv_aload_n hx hb dX1_melt_14 rfl (lv_at hl 0 rfl) ?_
      refine lv_aload_n hx hb dX1_melt_15 rfl (lv_at hl 1 rfl) ?_
      refine k_giN (C := RX2) (T := TX2) (N := 6) (ci := 3) (v := s 104) S hG (fun w h => List.mem_cons_of_mem _ (List.mem_append_left _ (List.mem_append_right _ h))) 102 (hlv.f (by decide) (by decide)) rfl rfl 0 (by decide) rfl (by decide +kernel) rfl (rfl) dX1_melt_16 ?_
      refine k_pi (C := RX1) (T := TX1) (N := 11) (ci := 2) (ty := .int) S hG hL (fun w h => List.mem_cons_of_mem _ (List.mem_append_right _ h)) tyX1 tyX1_ok nmX1 (4000 + i) (hlv.ca hi) (kJ_ca hi9) rfl 0 (by decide) rfl (hts (.fieldLink RX1 40 "SwarmLine$Case" "x" "I") (by decide +kernel)) rfl (by decide +kernel) rfl rfl (Nat.le_of_ble_eq_true rfl) (kw_ca_x hi9 _) dX1_melt_19 (fun H locs hG hL => ?_)
      refine lv_aload_n hx hb dX1_melt_22 rfl (lv_at hl 0 rfl) ?_
      refine lv_aload_n hx hb dX1_melt_23 rfl (lv_at hl 1 rfl) ?_
      refine k_giN (C := RX2) (T := TX2) (N := 6) (ci := 3) (v := s 105) S hG (fun w h => List.mem_cons_of_mem _ (List.mem_append_left _ (List.mem_append_right _ h))) 102 (hlv.f (by decide) (by decide)) rfl rfl 1 (by decide) rfl (by decide +kernel) rfl (rfl) dX1_melt_24 ?_
      refine k_pi (C := RX1) (T := TX1) (N := 11) (ci := 2) (ty := .int) S hG hL (fun w h => List.mem_cons_of_mem _ (List.mem_append_right _ h)) tyX1 tyX1_ok nmX1 (4000 + i) (hlv.ca hi) (kJ_ca hi9) rfl 1 (by decide) rfl (hts (.fieldLink RX1 43 "SwarmLine$Case" "y" "I") (by decide +kernel)) rfl (by decide +kernel) rfl rfl (Nat.le_of_ble_eq_true rfl) (kw_ca_y hi9 _) dX1_melt_27 (fun H locs hG hL => ?_)
      refine lv_aload_n hx hb dX1_melt_30 rfl (lv_at hl 0 rfl) ?_
      refine lv_iconst (v := 1) hx hb dX1_melt_31 (by decide) ?_
      refine k_pi (C := RX1) (T := TX1) (N := 11) (ci := 2) (ty := .boolean) S hG hL (fun w h => List.mem_cons_of_mem _ (List.mem_append_right _ h)) tyX1 tyX1_ok nmX1 (4000 + i) (hlv.ca hi) (kJ_ca hi9) rfl 2 (by decide) rfl (hts (.fieldLink RX1 9 "SwarmLine$Case" "placeIsSure" "Z") (by decide +kernel)) rfl (by decide +kernel) (by decide) (by decide) (Nat.le_of_ble_eq_true rfl) (kw_ca_placeIsSure hi9 _) dX1_melt_32 (fun H locs hG hL => ?_)
      exact LA  (up2 (up2 (up2 r 42 i (s 104)) 43 i (s 105)) 44 i 1) (by simp only [mlA, eq_true c4, eq_true c11, if_true, if_false]) _ _ hG hL _ (lv_sub hl [0, 1, 2] rfl)

set_option maxHeartbeats 800000 in
set_option maxRecDepth 100000 in
theorem c_X8_sizeOf {l : Launch} {D : va_G} {cI cZ cB cO cR cJ : ClassId} {Hb : Heap} {K : kTx} {lv : Nat → Prop} {ad : Nat → Nat} {ce0 : Nat → va_E} (s : Nat → Int32) (r : Nat → Nat → Int32) (hlv : kL lv s) (ln : Int32)  : kMet l D cI cZ cB cO cR cJ Hb K lv ad ce0 yX8_sizeOf wsX8_sizeOf 1 22 [.ref (ad 110), .int ln] s r (some (.int (kSz ln r))) s r := by
  refine Met.ofW (cc := cX8_sizeOf) (maxL := 2) (ret := (some .int)) (by decide) rfl ?_
  intro p0 e0 s0 m0 args below meth c0 s₁ B hml hv
  obtain ⟨rfl, hG, hK, hE⟩ := hv
  have hx := B.exec
  have hb := B.bytes
  have hr := B.returns
  have hts := atoms_spec (ws := wsX8_sizeOf) B.pre
  have hown : s0.vm.findClass RX8 = some m0.cls := findClass_of_methodNamed B.named
  have hlocks := B.notSynchronized
  have S : kX p0 m0 c0 cX8_sizeOf 2 s0 _ wsX8_sizeOf RX8 D (tyL cI cZ cB cO cR cJ) Hb K := ⟨⟨hx, hb, hml, hown, hts⟩, hK, hE⟩
  have hL : gL Hb [] := gL.nil
  have hH := hG.2.2.2.2
  have hl := lv_entry ([.ref (ad 110), .int ln]) (n := 2) (Nat.le_of_ble_eq_true rfl)
  rw [lg_entry_eq]
  generalize (lg_sl ([.ref (ad 110), .int ln]) ++ List.replicate (2 - (lg_sl ([.ref (ad 110), .int ln])).length) Slot.unset).toArray = ls at hl ⊢
  have hl : lv_has ls 2 [(0, .ref (ad 110)), (1, .int ln)] := hl
  refine lv_iload_n hx hb dX8_sizeOf_0 rfl (lv_at hl 1 rfl) ?_
  refine lv_iconst (v := 0) hx hb dX8_sizeOf_1 (by decide) ?_
  refine lv_bipush (v := 16) hx hb dX8_sizeOf_2 (by decide) ?_
  refine k_callPN (n := 3) (As := [.int ln, .int 0, .int 16]) (rest := []) (st1 := .int (fIn ln 0 16) :: []) S (c_X9_isWithin ln 0 16) gX8_sizeOf_X9_isWithin_n28 rfl (by decide +kernel) (hts (.initialized RX9) (by decide +kernel)) (hts (.static yX9_isWithin) (by decide +kernel)) (by decide +kernel) ⟨Nat.le_of_ble_eq_true rfl, Nat.le_of_ble_eq_true rfl⟩ rfl hl.1 rfl (Nat.le_of_ble_eq_true rfl) dX8_sizeOf_4 ⟨Nat.zero_le _, Nat.zero_le _⟩ (rfl) ?_
  refine lv_if_eq (tgt := 19) hx hb dX8_sizeOf_7 (by decide) (fun c7 => ?_) (fun c7 => ?_)
  ·
    refine lv_iconst (v := 0) hx hb dX8_sizeOf_19 (by decide) ?_
    exact g_iret S.1 hr hlocks hG hL (congrArg (fun z => some (Value.int z)) (by simp only [kSz, eq_true c7, if_true, if_false])) (congr (congrArg (kJ ce0 ad K.2.2.1 cI cB cO cR) (by rfl)) (by rfl)) dX8_sizeOf_20
  ·
    refine lv_aload_n hx hb dX8_sizeOf_10 rfl (lv_at hl 0 rfl) ?_
    refine k_ga (C := RX8) (T := TX8) (N := 3) (ci := 9) (v := .ref (ad 121)) S hG (fun w h => List.mem_cons_of_mem _ (List.mem_append_right _ h)) 110 (hlv.f (by decide) (by decide)) rfl rfl 1 (by decide) rfl (hts (.fieldLink RX8 16 "SwarmLine$Turns" "sizes" "[I") (by decide +kernel)) rfl dX8_sizeOf_11 ?_
    refine lv_iload_n hx hb dX8_sizeOf_14 rfl (lv_at hl 1 rfl) ?_
    refine k_ild (j := Int32.toNatClampNeg ln) (v := r 101 (Int32.toNatClampNeg ln)) S hG 121 (hlv.f (by decide) (by decide)) rfl rfl (show vp_in ln 17 from fIn_in c7 (by decide)) (rfl) dX8_sizeOf_15 ?_
    refine lv_goto (tgt := 20) hx hb dX8_sizeOf_16 (by decide) ?_
    exact g_iret S.1 hr hlocks hG hL (congrArg (fun z => some (Value.int z)) (by simp only [kSz, eq_false c7, if_true, if_false])) (congr (congrArg (kJ ce0 ad K.2.2.1 cI cB cO cR) (by rfl)) (by rfl)) dX8_sizeOf_20

set_option maxHeartbeats 800000 in
set_option maxRecDepth 100000 in
theorem c_X8_lineFor {l : Launch} {D : va_G} {cI cZ cB cO cR cJ : ClassId} {Hb : Heap} {K : kTx} {lv : Nat → Prop} {ad : Nat → Nat} {ce0 : Nat → va_E} (s : Nat → Int32) (r : Nat → Nat → Int32) (hlv : kL lv s) (d : Int32)  : kMet l D cI cZ cB cO cR cJ Hb K lv ad ce0 yX8_lineFor wsX8_lineFor 2 43 [.ref (ad 110), .int d] s r (some (.int (kLf d r))) s r := by
  refine Met.ofW (cc := cX8_lineFor) (maxL := 2) (ret := (some .int)) (by decide) rfl ?_
  intro p0 e0 s0 m0 args below meth c0 s₁ B hml hv
  obtain ⟨rfl, hG, hK, hE⟩ := hv
  have hx := B.exec
  have hb := B.bytes
  have hr := B.returns
  have hts := atoms_spec (ws := wsX8_lineFor) B.pre
  have hown : s0.vm.findClass RX8 = some m0.cls := findClass_of_methodNamed B.named
  have hlocks := B.notSynchronized
  have S : kX p0 m0 c0 cX8_lineFor 2 s0 _ wsX8_lineFor RX8 D (tyL cI cZ cB cO cR cJ) Hb K := ⟨⟨hx, hb, hml, hown, hts⟩, hK, hE⟩
  have hL : gL Hb [] := gL.nil
  have hH := hG.2.2.2.2
  have hl := lv_entry ([.ref (ad 110), .int d]) (n := 2) (Nat.le_of_ble_eq_true rfl)
  rw [lg_entry_eq]
  generalize (lg_sl ([.ref (ad 110), .int d]) ++ List.replicate (2 - (lg_sl ([.ref (ad 110), .int d])).length) Slot.unset).toArray = ls at hl ⊢
  have hl : lv_has ls 2 [(0, .ref (ad 110)), (1, .int d)] := hl
  refine lv_aload_n hx hb dX8_lineFor_0 rfl (lv_at hl 0 rfl) ?_
  refine lv_iload_n hx hb dX8_lineFor_1 rfl (lv_at hl 1 rfl) ?_
  refine k_callV (n := 1) (As := [.int d]) (rest := []) (st1 := .int (kSz d r) :: []) (k := 110) (ci := 9) S hG hL (hlv.f (by decide) (by decide)) rfl rfl (c_X8_sizeOf s r hlv  d ) gX8_lineFor_X8_sizeOf rfl ⟨rfl, rfl⟩ (by decide +kernel) ⟨Nat.le_of_ble_eq_true rfl, Nat.le_of_ble_eq_true rfl⟩ rfl hl.1 rfl (Nat.le_of_ble_eq_true rfl) dX8_lineFor_2 ⟨Nat.zero_le _, Nat.zero_le _⟩ (rfl) (fun H locs hG hL => ?_)
  refine lv_if_le (tgt := 12) hx hb dX8_lineFor_5 (by decide) (fun c5 => ?_) (fun c5 => ?_)
  ·
    refine lv_bipush (v := 16) hx hb dX8_lineFor_12 (by decide) ?_
    exact g_iret S.1 hr hlocks hG hL (congrArg (fun z => some (Value.int z)) (by simp only [kLf, eq_true c5, if_true, if_false])) (congr (congrArg (kJ ce0 ad K.2.2.1 cI cB cO cR) (by rfl)) (by rfl)) dX8_lineFor_14
  ·
    refine lv_iload_n hx hb dX8_lineFor_8 rfl (lv_at hl 1 rfl) ?_
    refine lv_goto (tgt := 14) hx hb dX8_lineFor_9 (by decide) ?_
    exact g_iret S.1 hr hlocks hG hL (congrArg (fun z => some (Value.int z)) (by simp only [kLf, eq_false c5, if_true, if_false])) (congr (congrArg (kJ ce0 ad K.2.2.1 cI cB cO cR) (by rfl)) (by rfl)) dX8_lineFor_14

set_option maxHeartbeats 800000 in
set_option maxRecDepth 100000 in
theorem c_X8_keeperAt {l : Launch} {D : va_G} {cI cZ cB cO cR cJ : ClassId} {Hb : Heap} {K : kTx} {lv : Nat → Prop} {ad : Nat → Nat} {ce0 : Nat → va_E} (s : Nat → Int32) (r : Nat → Nat → Int32) (hlv : kL lv s) (ln : Int32) (i : Int32) (h12 : ∀ l : Int32, (kSz l r).toInt ≤ 12) : kMet l D cI cZ cB cO cR cJ Hb K lv ad ce0 yX8_keeperAt wsX8_keeperAt 2 43 [.ref (ad 110), .int ln, .int i] s r (some (.int (kKa ln i r))) s r := by
  refine Met.ofW (cc := cX8_keeperAt) (maxL := 3) (ret := (some .int)) (by decide) rfl ?_
  intro p0 e0 s0 m0 args below meth c0 s₁ B hml hv
  obtain ⟨rfl, hG, hK, hE⟩ := hv
  have hx := B.exec
  have hb := B.bytes
  have hr := B.returns
  have hts := atoms_spec (ws := wsX8_keeperAt) B.pre
  have hown : s0.vm.findClass RX8 = some m0.cls := findClass_of_methodNamed B.named
  have hlocks := B.notSynchronized
  have S : kX p0 m0 c0 cX8_keeperAt 3 s0 _ wsX8_keeperAt RX8 D (tyL cI cZ cB cO cR cJ) Hb K := ⟨⟨hx, hb, hml, hown, hts⟩, hK, hE⟩
  have hL : gL Hb [] := gL.nil
  have hH := hG.2.2.2.2
  have hl := lv_entry ([.ref (ad 110), .int ln, .int i]) (n := 3) (Nat.le_of_ble_eq_true rfl)
  rw [lg_entry_eq]
  generalize (lg_sl ([.ref (ad 110), .int ln, .int i]) ++ List.replicate (3 - (lg_sl ([.ref (ad 110), .int ln, .int i])).length) Slot.unset).toArray = ls at hl ⊢
  have hl : lv_has ls 3 [(0, .ref (ad 110)), (1, .int ln), (2, .int i)] := hl
  refine lv_iload_n hx hb dX8_keeperAt_0 rfl (lv_at hl 2 rfl) ?_
  refine lv_if_lt (tgt := 24) hx hb dX8_keeperAt_1 (by decide) (fun c1 => ?_) (fun c1 => ?_)
  ·
    refine lv_iconst (v := (-1)) hx hb dX8_keeperAt_24 (by decide) ?_
    exact g_iret S.1 hr hlocks hG hL (congrArg (fun z => some (Value.int z)) (by simp only [kKa, eq_true c1, if_true, if_false])) (congr (congrArg (kJ ce0 ad K.2.2.1 cI cB cO cR) (by rfl)) (by rfl)) dX8_keeperAt_25
  ·
    refine lv_iload_n hx hb dX8_keeperAt_4 rfl (lv_at hl 2 rfl) ?_
    refine lv_aload_n hx hb dX8_keeperAt_5 rfl (lv_at hl 0 rfl) ?_
    refine lv_iload_n hx hb dX8_keeperAt_6 rfl (lv_at hl 1 rfl) ?_
    refine k_callV (n := 1) (As := [.int ln]) (rest := [.int i]) (st1 := .int (kSz ln r) :: [.int i]) (k := 110) (ci := 9) S hG hL (hlv.f (by decide) (by decide)) rfl rfl (c_X8_sizeOf s r hlv  ln ) gX8_keeperAt_X8_sizeOf rfl ⟨rfl, rfl⟩ (by decide +kernel) ⟨Nat.le_of_ble_eq_true rfl, Nat.le_of_ble_eq_true rfl⟩ rfl hl.1 rfl (Nat.le_of_ble_eq_true rfl) dX8_keeperAt_7 ⟨Nat.zero_le _, Nat.zero_le _⟩ (rfl) (fun H locs hG hL => ?_)
    refine lv_icmp_ge (tgt := 24) hx hb dX8_keeperAt_10 (by decide) (fun c10 => ?_) (fun c10 => ?_)
    ·
      refine lv_iconst (v := (-1)) hx hb dX8_keeperAt_24 (by decide) ?_
      exact g_iret S.1 hr hlocks hG hL (congrArg (fun z => some (Value.int z)) (by simp only [kKa, eq_false c1, eq_true c10, if_true, if_false])) (congr (congrArg (kJ ce0 ad K.2.2.1 cI cB cO cR) (by rfl)) (by rfl)) dX8_keeperAt_25
    ·
      refine lv_aload_n hx hb dX8_keeperAt_13 rfl (lv_at hl 0 rfl) ?_
      refine k_ga (C := RX8) (T := TX8) (N := 3) (ci := 9) (v := .ref (ad 119)) S hG (fun w h => List.mem_cons_of_mem _ (List.mem_append_right _ h)) 110 (hlv.f (by decide) (by decide)) rfl rfl 0 (by decide) rfl (hts (.fieldLink RX8 13 "SwarmLine$Turns" "rows" "[[I") (by decide +kernel)) rfl dX8_keeperAt_14 ?_
      refine lv_iload_n hx hb dX8_keeperAt_17 rfl (lv_at hl 1 rfl) ?_
      refine k_rld (j := Int32.toNatClampNeg ln) (q := ad (130 + (Int32.toNatClampNeg ln))) S hG 119 (hlv.f (by decide) (by decide)) rfl rfl (fIn_in (kSz_in c1 c10) (by decide)) (if_pos (ix_le (fIn_b (kSz_in c1 c10)).1 (by have q := (fIn_b (kSz_in c1 c10)).2; have z : (16 : Int32).toInt = 16 := rfl; omega))) dX8_keeperAt_18 ?_
      refine lv_iload_n hx hb dX8_keeperAt_19 rfl (lv_at hl 2 rfl) ?_
      refine k_ild (j := Int32.toNatClampNeg i) (v := r (110 + Int32.toNatClampNeg ln) (Int32.toNatClampNeg i)) S hG (130 + Int32.toNatClampNeg ln) (hlv.rw (ix_le (fIn_b (kSz_in c1 c10)).1 (by have q := (fIn_b (kSz_in c1 c10)).2; have z : (16 : Int32).toInt = 16 := rfl; omega))) (kJ_rw (Nat.lt_trans (ix_le (n := 17) (fIn_b (kSz_in c1 c10)).1 (by have q := (fIn_b (kSz_in c1 c10)).2; have z : (16 : Int32).toInt = 16 := rfl; omega)) (by decide))) rfl (show vp_in i 12 from vp_in_t (by have q := c1; rw [t_lt, t_0] at q; omega) (by have q := c10; rw [t_le] at q; have q2 := h12 ln; omega)) (rfl) dX8_keeperAt_20 ?_
      refine lv_goto (tgt := 25) hx hb dX8_keeperAt_21 (by decide) ?_
      exact g_iret S.1 hr hlocks hG hL (congrArg (fun z => some (Value.int z)) (by simp only [kKa, eq_false c1, eq_false c10, if_true, if_false])) (congr (congrArg (kJ ce0 ad K.2.2.1 cI cB cO cR) (by rfl)) (by rfl)) dX8_keeperAt_25
