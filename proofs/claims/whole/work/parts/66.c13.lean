/-! the draft of the turns -/
theorem kJ_rd {ce0 : Nat → va_E} {ad : Nat → Nat} {eA : Nat} {cI cB cO cR : ClassId} {s : Nat → Int32} {r : Nat → Nat → Int32} {i : Nat} (hi : i < 50) : kJ ce0 ad eA cI cB cO cR s r (150 + i) = .inl (cI, 12, .inl (r (130 + i))) := by
  unfold kJ
  rw [if_neg (by omega), if_neg (by omega), if_pos (by omega)]
  show kRw cI r (150 + i) = _
  unfold kRw
  rw [show 150 + i - 20 = 130 + i by omega]
def hoF (t : Nat → Int32) (k : Int32) (b : Nat) : Nat → Nat → Int32
  | 0, _ => 0
  | n + 1, i => if b ≤ i then 0 else if t i = k then 1 else hoF t k b n (i + 1)
def hoV (ln k : Int32) (r : Nat → Nat → Int32) : Int32 := hoF (r (130 + Int32.toNatClampNeg ln)) k (r 102 (Int32.toNatClampNeg ln)).toNatClampNeg (1 + (r 102 (Int32.toNatClampNeg ln)).toNatClampNeg) 0

set_option maxHeartbeats 400000 in
set_option maxRecDepth 100000 in
theorem c_X8_holds {l : Launch} {D : va_G} {cI cZ cB cO cR cJ : ClassId} {Hb : Heap} {K : kTx} {lv : Nat → Prop} {ad : Nat → Nat} {ce0 : Nat → va_E} (s : Nat → Int32) (r : Nat → Nat → Int32) (hlv : kL lv s) (ln : Int32) (k : Int32) (hl0 : 0 ≤ ln.toInt) (hl1 : ln.toInt ≤ 16) (h0 : 0 ≤ (r 102 (Int32.toNatClampNeg ln)).toInt) (h1 : (r 102 (Int32.toNatClampNeg ln)).toInt ≤ 12) : kMet l D cI cZ cB cO cR cJ Hb K lv ad ce0 yX8_holds wsX8_holds 0 0 [.ref (ad 111), .int ln, .int k] s r (some (.int (hoV ln k r))) s r := by
  refine Met.ofW (cc := cX8_holds) (maxL := 4) (ret := (some .boolean)) (by decide) rfl ?_
  intro p0 e0 s0 m0 args below meth c0 s₁ B hml hv
  obtain ⟨rfl, hG, hK, hE⟩ := hv
  have hx := B.exec
  have hb := B.bytes
  have hr := B.returns
  have hts := atoms_spec (ws := wsX8_holds) B.pre
  have hown : s0.vm.findClass RX8 = some m0.cls := findClass_of_methodNamed B.named
  have hlocks := B.notSynchronized
  have S : kX p0 m0 c0 cX8_holds 4 s0 _ wsX8_holds RX8 D (tyL cI cZ cB cO cR cJ) Hb K := ⟨⟨hx, hb, hml, hown, hts⟩, hK, hE⟩
  have hL : gL Hb [] := gL.nil
  have hH := hG.2.2.2.2
  have hl := lv_entry ([.ref (ad 111), .int ln, .int k]) (n := 4) (Nat.le_of_ble_eq_true rfl)
  rw [lg_entry_eq]
  generalize (lg_sl ([.ref (ad 111), .int ln, .int k]) ++ List.replicate (4 - (lg_sl ([.ref (ad 111), .int ln, .int k])).length) Slot.unset).toArray = ls at hl ⊢
  have hl : lv_has ls 4 [(0, .ref (ad 111)), (1, .int ln), (2, .int k)] := hl
  refine lv_iconst (v := 0) hx hb dX8_holds_0 (by decide) ?_
  refine lv_istore_n (lv' := [(3, .int 0), (0, .ref (ad 111)), (1, .int ln), (2, .int k)]) hx hb dX8_holds_1 rfl hl (by decide) rfl (fun ls hl => ?_)
  have LP : ∀ (n : Nat) (i : Nat) (x : Int32) (ex : x = nI i) (hi : i ≤ (r 102 (Int32.toNatClampNeg ln)).toNatClampNeg) (hn : (r 102 (Int32.toNatClampNeg ln)).toNatClampNeg + 1 ≤ i + n) (hF : hoF (r (130 + Int32.toNatClampNeg ln)) k (r 102 (Int32.toNatClampNeg ln)).toNatClampNeg n i = hoV ln k r), ∀ (H : Heap) (locs : List Loc), gW D Hb lv ad (kJ ce0 ad K.2.2.1 cI cB cO cR s r) H → gL Hb locs → ∀ (ls : Array Slot), lv_has ls 4 [(0, .ref (ad 111)), (1, .int ln), (2, .int k), (3, .int x)] → W p0 l e0 (headSpec wsX8_holds { frames := 0, cells := 0, slots := 0, locals := 0 }).room s0 m0 ([.ref (ad 111), .int ln, .int k] : List Value).toArray below meth c0 H locs 0 0 (MQ below (gQ D Hb lv ad (some (.int (hoV ln k r))) (kJ ce0 ad K.2.2.1 cI cB cO cR s r)) ([.ref (ad 111), .int ln, .int k] : List Value).toArray s0 0 0 (gA Hb)) (F0 m0 2 ls []) := by
    intro n
    induction n with
    | zero => intro i x ex hi hn hF; exact absurd hn (by omega)
    | succ n ih =>
      intro i x ex hi hn hF H locs hG hL ls hl
      have hbd : (r 102 (Int32.toNatClampNeg ln)).toNatClampNeg ≤ 12 := t_ixl h0 h1; have hii : Int32.toNatClampNeg x = i := by { rw [ex]; exact ix_nI (by omega) }
      refine lv_iload_n hx hb dX8_holds_2 rfl (lv_at hl 3 rfl) ?_
      refine lv_aload_n hx hb dX8_holds_3 rfl (lv_at hl 0 rfl) ?_
      refine k_ga (C := RX8) (T := TX8) (N := 3) (ci := 9) (v := .ref (ad 122)) S hG (fun w h => List.mem_cons_of_mem _ (List.mem_append_right _ h)) 111 (hlv.f (by decide) (by decide)) rfl rfl 1 (by decide) rfl (hts (.fieldLink RX8 16 "SwarmLine$Turns" "sizes" "[I") (by decide +kernel)) rfl dX8_holds_4 ?_
      refine lv_iload_n hx hb dX8_holds_7 rfl (lv_at hl 1 rfl) ?_
      refine k_ild (j := Int32.toNatClampNeg ln) (v := r 102 (Int32.toNatClampNeg ln)) S hG 122 (hlv.f (by decide) (by decide)) rfl rfl (show vp_in ln 17 from vp_in_t hl0 (by omega)) (rfl) dX8_holds_8 ?_
      refine lv_icmp_ge (tgt := 32) hx hb dX8_holds_9 (by decide) (fun c9 => ?_) (fun c9 => ?_)
      ·
        have hEq := cl_ge h0 hi (ex ▸ c9)
        refine lv_iconst (v := 0) hx hb dX8_holds_32 (by decide) ?_
        exact g_zret S.1 hr hlocks (by decide) hG hL (congrArg (fun z => some (Value.int z)) (by rw [← hF]; simp only [hoF, eq_true (show (r 102 (Int32.toNatClampNeg ln)).toNatClampNeg ≤ i by omega), ↓reduceIte])) (congr (congrArg (kJ ce0 ad K.2.2.1 cI cB cO cR) (by rfl)) (by rfl)) dX8_holds_33
      ·
        have hlt := cl_lt h0 hi (ex ▸ c9)
        refine lv_aload_n hx hb dX8_holds_12 rfl (lv_at hl 0 rfl) ?_
        refine k_ga (C := RX8) (T := TX8) (N := 3) (ci := 9) (v := .ref (ad 120)) S hG (fun w h => List.mem_cons_of_mem _ (List.mem_append_right _ h)) 111 (hlv.f (by decide) (by decide)) rfl rfl 0 (by decide) rfl (hts (.fieldLink RX8 13 "SwarmLine$Turns" "rows" "[[I") (by decide +kernel)) rfl dX8_holds_13 ?_
        refine lv_iload_n hx hb dX8_holds_16 rfl (lv_at hl 1 rfl) ?_
        refine k_rld (j := Int32.toNatClampNeg ln) (q := ad (150 + (Int32.toNatClampNeg ln))) S hG 120 (hlv.f (by decide) (by decide)) rfl rfl (vp_in_t hl0 (by omega)) (if_pos (ix_le hl0 (by omega))) dX8_holds_17 ?_
        refine lv_iload_n hx hb dX8_holds_18 rfl (lv_at hl 3 rfl) ?_
        refine k_ild (j := i) (v := r (130 + Int32.toNatClampNeg ln) i) S hG (150 + Int32.toNatClampNeg ln) (hlv.rd (ix_le hl0 (by omega))) (kJ_rd (Nat.lt_trans (ix_le (n := 17) hl0 (by omega)) (by decide))) hii (show vp_in x 12 from by rw [ex]; exact vp_in_i (by omega) (by omega)) (rfl) dX8_holds_19 ?_
        refine lv_iload_n hx hb dX8_holds_20 rfl (lv_at hl 2 rfl) ?_
        refine lv_icmp_ne (tgt := 26) hx hb dX8_holds_21 (by decide) (fun c21 => ?_) (fun c21 => ?_)
        ·
          refine lv_iinc (v := x + 1) (lv' := [(3, .int (x + 1)), (0, .ref (ad 111)), (1, .int ln), (2, .int k)]) hx hb dX8_holds_26 hl (k := 3) rfl (by rfl) (by decide) rfl (fun ls hl => ?_)
          refine lv_goto (tgt := 2) hx hb dX8_holds_29 (by decide) ?_
          exact ih  (i + 1) (x + 1) (by rw [ex]; exact nI_1 i) (hlt) (by omega) (by rw [← hF]; simp only [hoF, eq_false (show ¬ (r 102 (Int32.toNatClampNeg ln)).toNatClampNeg ≤ i by omega), eq_false c21, ↓reduceIte]) _ _ hG hL _ (lv_sub hl [1, 2, 3, 0] rfl)
        ·
          refine lv_iconst (v := 1) hx hb dX8_holds_24 (by decide) ?_
          exact g_zret S.1 hr hlocks (by decide) hG hL (congrArg (fun z => some (Value.int z)) (by rw [← hF]; simp only [hoF, eq_false (show ¬ (r 102 (Int32.toNatClampNeg ln)).toNatClampNeg ≤ i by omega), eq_true c21, ↓reduceIte])) (congr (congrArg (kJ ce0 ad K.2.2.1 cI cB cO cR) (by rfl)) (by rfl)) dX8_holds_25
  exact LP (1 + (r 102 (Int32.toNatClampNeg ln)).toNatClampNeg) 0 0 (rfl) (Nat.zero_le _) (by omega) (rfl) _ _ hG hL _ (lv_sub hl [1, 2, 3, 0] rfl)
