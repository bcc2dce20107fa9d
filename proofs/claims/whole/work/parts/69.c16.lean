/-! a line of the turns: its keepers -/
def nf3 (s s' : Nat → Int32) : Prop := ∀ f, ¬ f = 101 → ¬ f = 102 → ¬ f = 103 → s' f = s f
theorem nf3.ad {s s' : Nat → Int32} (h : nf3 s s') (r : Nat → Nat → Int32) : nf3 s (adS s' r) := fun f a b c => by
  have e : adS s' r f = s' f := by simp [adS, adB, upd, a, b, c]
  rw [e]; exact h f a b c
theorem nf3.id (s : Nat → Int32) : nf3 s s := fun _ _ _ _ => rfl
theorem kL.nf {lv : Nat → Prop} {s s' : Nat → Int32} (h : kL lv s) (e : nf3 s s') : kL lv s' := by
  unfold kL
  rw [e 6 (by decide) (by decide) (by decide), e 14 (by decide) (by decide) (by decide), e 26 (by decide) (by decide) (by decide), e 39 (by decide) (by decide) (by decide)]
  exact h
theorem rdD_P (P : (Nat → Int32) → Prop) {s : Nat → Int32} {r : Nat → Nat → Int32} (h0 : P s) (h1 : P (adS s r)) : P (rdD s r).2 := by
  unfold rdD
  by_cases c1 : kIw 20 s r = 0
  · rw [if_pos c1]
    by_cases c2 : kIw 21 s r = 0
    · rw [if_pos c2]; exact h0
    · rw [if_neg c2]
      by_cases c3 : kNw 0 15 (adS s r) r = 0
      · rw [if_pos c3]; exact h1
      · rw [if_neg c3]; exact h1
  · rw [if_neg c1]; exact h0
theorem rdD_W {s : Nat → Int32} {r : Nat → Nat → Int32} (h : tW s) : tW (rdD s r).2 := rdD_P tW h (ad_W h.1)
theorem rdD_N {s : Nat → Int32} {r : Nat → Nat → Int32} : nf3 s (rdD s r).2 := rdD_P (nf3 s) (nf3.id s) ((nf3.id s).ad r)
theorem rdD_ok {s : Nat → Int32} {r : Nat → Nat → Int32} (h : ¬ (rdD s r).1 = -1) : r 102 (Int32.toNatClampNeg (rdD s r).1) = 0 ∧ 0 ≤ (rdD s r).1.toInt ∧ (rdD s r).1.toInt ≤ 16 := by
  unfold rdD at h ⊢
  by_cases c1 : kIw 20 s r = 0
  · rw [if_pos c1] at h ⊢
    by_cases c2 : kIw 21 s r = 0
    · rw [if_pos c2] at h; exact absurd rfl h
    · rw [if_neg c2] at h ⊢
      by_cases c3 : kNw 0 15 (adS s r) r = 0
      · rw [if_pos c3] at h; exact absurd rfl h
      · rw [if_neg c3] at h ⊢
        have q := fIn_b (kNw_in c3)
        generalize vVa (adS s r) r = v at h q ⊢
        by_cases c4 : r 102 (Int32.toNatClampNeg v) = 0
        · show r 102 (Int32.toNatClampNeg (if r 102 (Int32.toNatClampNeg v) = 0 then v else -1)) = 0 ∧ _
          rw [if_pos c4]
          have z : (15 : Int32).toInt = 15 := rfl
          have z0 : (0 : Int32).toInt = 0 := rfl
          exact ⟨c4, (by show 0 ≤ v.toInt; omega), (by show v.toInt ≤ 16; omega)⟩
        · have h' : ¬ (if r 102 (Int32.toNatClampNeg v) = 0 then v else -1) = -1 := h
          rw [if_neg c4] at h'
          exact absurd rfl h'
  · rw [if_neg c1] at h ⊢
    have h' : ¬ (if r 102 (Int32.toNatClampNeg 16) = 0 then (16 : Int32) else -1) = -1 := h
    by_cases c4 : r 102 (Int32.toNatClampNeg 16) = 0
    · show r 102 (Int32.toNatClampNeg (if r 102 (Int32.toNatClampNeg 16) = 0 then 16 else -1)) = 0 ∧ _
      rw [if_pos c4]
      exact ⟨c4, (by show 0 ≤ (16 : Int32).toInt; decide), (by show (16 : Int32).toInt ≤ 16; decide)⟩
    · rw [if_neg c4] at h'
      exact absurd rfl h'
theorem rdD_z {s : Nat → Int32} {r : Nat → Nat → Int32} (h : fIn (rdD s r).1 0 16 = 0) : (rdD s r).1 = -1 := Classical.byContradiction fun c => fIn_16 (rdD_ok c).2.1 (rdD_ok c).2.2 h
theorem rdD_n {s : Nat → Int32} {r : Nat → Nat → Int32} (h : ¬ fIn (rdD s r).1 0 16 = 0) : ¬ (rdD s r).1 = -1 := fun z => h (by rw [z]; decide)
theorem kw_rd {ce0 : Nat → va_E} {ad : Nat → Nat} {eA : Nat} {cI cB cO cR : ClassId} {s : Nat → Int32} {r : Nat → Nat → Int32} {i : Nat} (hi : i < 17) (j : Nat) (v : Int32) : va_up (kJ ce0 ad eA cI cB cO cR s r) (150 + i) (.inl (cI, 12, .inl (upd (r (130 + i)) j v))) = kJ ce0 ad eA cI cB cO cR s (up2 r (130 + i) j v) := by
  have nn : ∀ f, ¬ f = 130 + i → up2 r (130 + i) j v f = r f := fun f hf => up2_nn _ _ _ hf
  refine kJ_up ?_ (fun k hk => ?_)
  · rw [kJ_rd (by omega)]
    simp [up2, va_up]
  · have eH : ∀ q, kHv (up2 r (130 + i) j v) q = kHv r q := fun q => by unfold kHv; rw [nn 7 (by omega), nn 8 (by omega), nn 9 (by omega), nn 10 (by omega), nn 11 (by omega), nn 12 (by omega), nn 13 (by omega)]
    have eS : ∀ q, kSw (up2 r (130 + i) j v) q = kSw r q := fun q => by unfold kSw; rw [nn 15 (by omega), nn 16 (by omega), nn 17 (by omega), nn 18 (by omega), nn 19 (by omega), nn 20 (by omega), nn 21 (by omega), nn 22 (by omega), nn 23 (by omega), nn 24 (by omega), nn 25 (by omega)]
    have eK : ∀ q, kKp (up2 r (130 + i) j v) q = kKp r q := fun q => by unfold kKp; rw [nn 27 (by omega), nn 28 (by omega), nn 29 (by omega), nn 30 (by omega), nn 31 (by omega), nn 32 (by omega), nn 33 (by omega), nn 34 (by omega), nn 35 (by omega), nn 36 (by omega), nn 37 (by omega), nn 38 (by omega)]
    have eC : ∀ q, kCa (up2 r (130 + i) j v) q = kCa r q := fun q => by unfold kCa; rw [nn 41 (by omega), nn 42 (by omega), nn 43 (by omega), nn 44 (by omega), nn 45 (by omega), nn 46 (by omega), nn 47 (by omega), nn 48 (by omega), nn 49 (by omega), nn 50 (by omega), nn 51 (by omega)]
    have eF : kFx ad eA cI cB cR s (up2 r (130 + i) j v) k = kFx ad eA cI cB cR s r k := by unfold kFx; rw [nn 2 (by omega), nn 3 (by omega), nn 4 (by omega), nn 5 (by omega), nn 58 (by omega), nn 59 (by omega), nn 60 (by omega), nn 100 (by omega), nn 101 (by omega), nn 102 (by omega)]
    exact kJ_seg k eF (fun h => nn _ (by omega)) rfl (fun q _ => eH q) (fun q _ => eS q) (fun q _ => eK q) (fun q _ => eC q)
def rzU (ln : Int32) (i : Nat) (s : Nat → Int32) (r : Nat → Nat → Int32) : Nat → Nat → Int32 := up2 (up2 r (130 + Int32.toNatClampNeg ln) i (vVa s r)) 102 (Int32.toNatClampNeg ln) (nI i + 1)
theorem rzU_T {ln : Int32} {i : Nat} {s : Nat → Int32} {r : Nat → Nat → Int32} (h : hTp r) : hTp (rzU ln i s r) := by
  have e : rzU ln i s r 60 = r 60 := (up2_nn _ _ _ (by decide)).trans (up2_nn _ _ _ (by omega))
  unfold hTp
  rw [e]
  exact h
theorem rzU_z {ln : Int32} {i : Nat} {s : Nat → Int32} {r : Nat → Nat → Int32} : rzU ln i s r 102 (Int32.toNatClampNeg ln) = nI (i + 1) := by
  unfold rzU
  rw [up2_ss, nI_1]
def rzL (ln kn : Int32) : Nat → Nat → (Nat → Int32) → (Nat → Nat → Int32) → FX
  | 0, _, s, r => (0, s, r)
  | k + 1, i, s, r => if kNw 0 (kn - 1) s r = 0 then (0, s, r) else if hoV ln (vVa s r) r = 0 then (if kAn (adS s (rzU ln i s r)) = 0 then (1, adS s (rzU ln i s r), rzU ln i s r) else rzL ln kn k (i + 1) (adS s (rzU ln i s r)) (rzU ln i s r)) else (0, s, r)
def rlZ (kn : Int32) (s : Nat → Int32) (r : Nat → Nat → Int32) : FX := if (rdD s r).1 = -1 then (0, (rdD s r).2, r) else if kSg 58 (adS (rdD s r).2 r) r = 0 then (0, adS (rdD s r).2 r, r) else rzL (rdD s r).1 kn 12 0 (adS (adS (rdD s r).2 r) r) r
theorem rzL_P (P : (Nat → Int32) → (Nat → Nat → Int32) → Prop) {ln kn : Int32} (hp : ∀ i s r, P s r → P (adS s (rzU ln i s r)) (rzU ln i s r)) : ∀ k i s r, P s r → P (rzL ln kn k i s r).2.1 (rzL ln kn k i s r).2.2
  | 0, _, _, _, h => h
  | k + 1, i, s, r, h => by
    unfold rzL
    by_cases c1 : kNw 0 (kn - 1) s r = 0
    · rw [if_pos c1]; exact h
    · rw [if_neg c1]
      by_cases c2 : hoV ln (vVa s r) r = 0
      · rw [if_pos c2]
        by_cases c3 : kAn (adS s (rzU ln i s r)) = 0
        · rw [if_pos c3]; exact hp i s r h
        · rw [if_neg c3]; exact rzL_P P hp k (i + 1) _ _ (hp i s r h)
      · rw [if_neg c2]; exact h
theorem rlZ_P (P : (Nat → Int32) → (Nat → Nat → Int32) → Prop) {kn : Int32} {s : Nat → Int32} {r : Nat → Nat → Int32} (hp : ∀ ln i s r, P s r → P (adS s (rzU ln i s r)) (rzU ln i s r)) (ha : ∀ s r, P s r → P (adS s r) r) (h : P s r) : P (rlZ kn s r).2.1 (rlZ kn s r).2.2 := by
  have h0 : P (rdD s r).2 r := rdD_P (fun z => P z r) h (ha _ _ h)
  unfold rlZ
  by_cases c1 : (rdD s r).1 = -1
  · rw [if_pos c1]; exact h0
  · rw [if_neg c1]
    by_cases c2 : kSg 58 (adS (rdD s r).2 r) r = 0
    · rw [if_pos c2]; exact ha _ _ h0
    · rw [if_neg c2]; exact rzL_P P (hp _) _ _ _ _ (ha _ _ (ha _ _ h0))
theorem rlZ_W {kn : Int32} {s : Nat → Int32} {r : Nat → Nat → Int32} (h : tW s) : tW (rlZ kn s r).2.1 := rlZ_P (fun z _ => tW z) (fun _ _ _ _ h => ad_W h.1) (fun _ _ h => ad_W h.1) h
theorem rlZ_N {kn : Int32} {s : Nat → Int32} {r : Nat → Nat → Int32} : nf3 s (rlZ kn s r).2.1 := rlZ_P (fun z _ => nf3 s z) (fun _ _ _ _ h => h.ad _) (fun _ _ h => h.ad _) (nf3.id s)
theorem rlZ_T {kn : Int32} {s : Nat → Int32} {r : Nat → Nat → Int32} (h : hTp r) : hTp (rlZ kn s r).2.2 := rlZ_P (fun _ z => hTp z) (fun _ _ _ _ h => rzU_T h) (fun _ _ h => h) h

set_option maxHeartbeats 600000 in
set_option maxRecDepth 100000 in
theorem c_X8_readLine {l : Launch} {D : va_G} {cI cZ cB cO cR cJ : ClassId} {Hb : Heap} {K : kTx} {lv : Nat → Prop} {ad : Nat → Nat} {ce0 : Nat → va_E} (s : Nat → Int32) (r : Nat → Nat → Int32) (hlv : kL lv s) (kn : Int32) (hB : tW s) (hT : hTp r) : kMet l D cI cZ cB cO cR cJ Hb K lv ad ce0 yX8_readLine wsX8_readLine 6 129 [.ref (ad 111), .ref (ad 101), .int kn] s r (some (.int ((rlZ kn s r).1))) ((rlZ kn s r).2.1) ((rlZ kn s r).2.2) := by
  refine Met.ofW (cc := cX8_readLine) (maxL := 5) (ret := (some .boolean)) (by decide) rfl ?_
  intro p0 e0 s0 m0 args below meth c0 s₁ B hml hv
  obtain ⟨rfl, hG, hK, hE⟩ := hv
  have hx := B.exec
  have hb := B.bytes
  have hr := B.returns
  have hts := atoms_spec (ws := wsX8_readLine) B.pre
  have hown : s0.vm.findClass RX8 = some m0.cls := findClass_of_methodNamed B.named
  have hlocks := B.notSynchronized
  have S : kX p0 m0 c0 cX8_readLine 5 s0 _ wsX8_readLine RX8 D (tyL cI cZ cB cO cR cJ) Hb K := ⟨⟨hx, hb, hml, hown, hts⟩, hK, hE⟩
  have hL : gL Hb [] := gL.nil
  have hH := hG.2.2.2.2
  have hl := lv_entry ([.ref (ad 111), .ref (ad 101), .int kn]) (n := 5) (Nat.le_of_ble_eq_true rfl)
  rw [lg_entry_eq]
  generalize (lg_sl ([.ref (ad 111), .ref (ad 101), .int kn]) ++ List.replicate (5 - (lg_sl ([.ref (ad 111), .ref (ad 101), .int kn])).length) Slot.unset).toArray = ls at hl ⊢
  have hl : lv_has ls 5 [(0, .ref (ad 111)), (1, .ref (ad 101)), (2, .int kn)] := hl
  refine lv_aload_n hx hb dX8_readLine_0 rfl (lv_at hl 0 rfl) ?_
  refine lv_aload_n hx hb dX8_readLine_1 rfl (lv_at hl 1 rfl) ?_
  refine k_callV (n := 1) (As := [.ref (ad 101)]) (rest := []) (st1 := .int ((rdD s r).1) :: []) (k := 111) (ci := 9) S hG hL (hlv.f (by decide) (by decide)) rfl rfl (c_X8_readDistrict s r hlv   (hB) (hT)) gX8_readLine_X8_readDistrict rfl ⟨rfl, rfl⟩ (by decide +kernel) ⟨Nat.le_of_ble_eq_true rfl, Nat.le_of_ble_eq_true rfl⟩ rfl hl.1 rfl (Nat.le_of_ble_eq_true rfl) dX8_readLine_2 ⟨Nat.zero_le _, Nat.zero_le _⟩ (rfl) (fun H locs hG hL => ?_)
  refine lv_istore_n (lv' := [(3, .int ((rdD s r).1)), (0, .ref (ad 111)), (1, .ref (ad 101)), (2, .int kn)]) hx hb dX8_readLine_5 rfl hl (by decide) rfl (fun ls hl => ?_)
  refine lv_iload_n hx hb dX8_readLine_6 rfl (lv_at hl 0 rfl) ?_
  refine lv_iconst (v := 0) hx hb dX8_readLine_7 (by decide) ?_
  refine lv_bipush (v := 16) hx hb dX8_readLine_8 (by decide) ?_
  refine k_callPN (n := 3) (As := [.int ((rdD s r).1), .int 0, .int 16]) (rest := []) (st1 := .int (fIn ((rdD s r).1) 0 16) :: []) S (c_X9_isWithin ((rdD s r).1) 0 16) gX8_readLine_X9_isWithin_n28 rfl (by decide +kernel) (hts (.initialized RX9) (by decide +kernel)) (hts (.static yX9_isWithin) (by decide +kernel)) (by decide +kernel) ⟨Nat.le_of_ble_eq_true rfl, Nat.le_of_ble_eq_true rfl⟩ rfl hl.1 rfl (Nat.le_of_ble_eq_true rfl) dX8_readLine_10 ⟨Nat.zero_le _, Nat.zero_le _⟩ (rfl) ?_
  refine lv_if_ne (tgt := 18) hx hb dX8_readLine_13 (by decide) (fun c13 => ?_) (fun c13 => ?_)
  ·
    have c8 := rdD_n c13
    refine lv_aload_n hx hb dX8_readLine_18 rfl (lv_at hl 2 rfl) ?_
    refine k_callV (n := 0) (As := []) (rest := []) (st1 := []) (k := 101) (ci := 8) S hG hL (hlv.f (by decide) (by decide)) rfl rfl (c_X7_advance ((rdD s r).2) r (hlv.nf rdD_N)   ((rdD_W hB).1) (hT)) gX8_readLine_X7_advance rfl ⟨rfl, rfl⟩ (by decide +kernel) ⟨Nat.le_of_ble_eq_true rfl, Nat.le_of_ble_eq_true rfl⟩ rfl hl.1 rfl (Nat.le_of_ble_eq_true rfl) dX8_readLine_19 ⟨Nat.zero_le _, Nat.zero_le _⟩ (rfl) (fun H locs hG hL => ?_)
    refine lv_aload_n hx hb dX8_readLine_22 rfl (lv_at hl 2 rfl) ?_
    refine lv_bipush (v := 58) hx hb dX8_readLine_23 (by decide) ?_
    refine k_callV (n := 1) (As := [.int 58]) (rest := []) (st1 := .int (kSg 58 (adS ((rdD s r).2) r) r) :: []) (k := 101) (ci := 8) S hG hL (hlv.f (by decide) (by decide)) rfl rfl (c_X7_isSign (adS ((rdD s r).2) r) r ((hlv.nf rdD_N).ad r)  58 (ad_W (rdD_W hB).1)) gX8_readLine_X7_isSign rfl ⟨rfl, rfl⟩ (by decide +kernel) ⟨Nat.le_of_ble_eq_true rfl, Nat.le_of_ble_eq_true rfl⟩ rfl hl.1 rfl (Nat.le_of_ble_eq_true rfl) dX8_readLine_25 ⟨Nat.zero_le _, Nat.zero_le _⟩ (rfl) (fun H locs hG hL => ?_)
    refine lv_if_ne (tgt := 33) hx hb dX8_readLine_28 (by decide) (fun c28 => ?_) (fun c28 => ?_)
    ·
      refine lv_aload_n hx hb dX8_readLine_33 rfl (lv_at hl 2 rfl) ?_
      refine k_callV (n := 0) (As := []) (rest := []) (st1 := []) (k := 101) (ci := 8) S hG hL (hlv.f (by decide) (by decide)) rfl rfl (c_X7_advance (adS ((rdD s r).2) r) r ((hlv.nf rdD_N).ad r)   (ad_R (rdD_W hB).1) (hT)) gX8_readLine_X7_advance rfl ⟨rfl, rfl⟩ (by decide +kernel) ⟨Nat.le_of_ble_eq_true rfl, Nat.le_of_ble_eq_true rfl⟩ rfl hl.1 rfl (Nat.le_of_ble_eq_true rfl) dX8_readLine_34 ⟨Nat.zero_le _, Nat.zero_le _⟩ (rfl) (fun H locs hG hL => ?_)
      refine lv_iconst (v := 0) hx hb dX8_readLine_37 (by decide) ?_
      refine lv_istore (lv' := [(4, .int 0), (3, .int ((rdD s r).1)), (0, .ref (ad 111)), (1, .ref (ad 101)), (2, .int kn)]) hx hb dX8_readLine_38 hl (by decide) rfl (fun ls hl => ?_)
      have LP : ∀ (n : Nat) (i : Nat) (x : Int32) (ln : Int32) (sv : Nat → Int32) (rv : Nat → Nat → Int32) (ex : x = nI i) (hi : i ≤ 12) (hn : 13 ≤ i + n) (hl0 : 0 ≤ ln.toInt) (hl1 : ln.toInt ≤ 16) (hW : tW sv) (hlv2 : kL lv sv) (hT2 : hTp rv) (hz : rv 102 (Int32.toNatClampNeg ln) = nI i) (hF : rzL ln kn (12 - i) i sv rv = rlZ kn s r), ∀ (H : Heap) (locs : List Loc), gW D Hb lv ad (kJ ce0 ad K.2.2.1 cI cB cO cR sv rv) H → gL Hb locs → ∀ (ls : Array Slot), lv_has ls 5 [(0, .ref (ad 111)), (1, .ref (ad 101)), (2, .int kn), (3, .int ln), (4, .int x)] → W p0 l e0 (headSpec wsX8_readLine { frames := 6, cells := 0, slots := 0, locals := 129 }).room s0 m0 ([.ref (ad 111), .ref (ad 101), .int kn] : List Value).toArray below meth c0 H locs 0 0 (MQ below (gQ D Hb lv ad (some (.int ((rlZ kn s r).1))) (kJ ce0 ad K.2.2.1 cI cB cO cR ((rlZ kn s r).2.1) ((rlZ kn s r).2.2))) ([.ref (ad 111), .ref (ad 101), .int kn] : List Value).toArray s0 0 0 (gA Hb)) (F0 m0 40 ls []) := by
        intro n
        induction n with
        | zero => intro i x ln sv rv ex hi hn hl0 hl1 hW hlv2 hT2 hz hF; exact absurd hn (by omega)
        | succ n ih =>
          intro i x ln sv rv ex hi hn hl0 hl1 hW hlv2 hT2 hz hF H locs hG hL ls hl
          have hii : Int32.toNatClampNeg x = i := by { rw [ex]; exact ix_nI (by omega) }; have hz0 : 0 ≤ (rv 102 (Int32.toNatClampNeg ln)).toInt := by { rw [hz, nI_toInt (by omega)]; omega }; have hz1 : (rv 102 (Int32.toNatClampNeg ln)).toInt ≤ 12 := by { rw [hz, nI_toInt (by omega)]; omega }
          refine lv_iload hx hb dX8_readLine_40 (lv_at hl 4 rfl) ?_
          refine lv_bipush (v := 12) hx hb dX8_readLine_42 (by decide) ?_
          refine lv_icmp_ge (tgt := 114) hx hb dX8_readLine_44 (by decide) (fun c44 => ?_) (fun c44 => ?_)
          ·
            have hE : i = 12 := by { have q := (nle (by omega) (by omega)).mp (ex ▸ c44 : nI 12 ≤ nI i); omega }
            refine lv_iconst (v := 0) hx hb dX8_readLine_114 (by decide) ?_
            exact g_zret S.1 hr hlocks (by decide) hG hL (congrArg (fun z => some (Value.int z)) (by rw [← hF, hE]; rfl)) (congr (congrArg (kJ ce0 ad K.2.2.1 cI cB cO cR) (by rw [← hF, hE]; rfl)) (by rw [← hF, hE]; rfl)) dX8_readLine_115
          ·
            have hlt : i < 12 := by { have q := (not_congr (nle (by omega) (by omega))).mp (ex ▸ c44 : ¬ nI 12 ≤ nI i); omega }
            refine lv_aload_n hx hb dX8_readLine_47 rfl (lv_at hl 1 rfl) ?_
            refine lv_iconst (v := 0) hx hb dX8_readLine_48 (by decide) ?_
            refine lv_iload_n hx hb dX8_readLine_49 rfl (lv_at hl 2 rfl) ?_
            refine lv_iconst (v := 1) hx hb dX8_readLine_50 (by decide) ?_
            refine lv_isub hx hb dX8_readLine_51 ?_
            refine k_callV (n := 2) (As := [.int 0, .int (kn - 1)]) (rest := []) (st1 := .int (kNw 0 (kn - 1) sv rv) :: []) (k := 101) (ci := 8) S hG hL (hlv.f (by decide) (by decide)) rfl rfl (c_X7_isNumberWithin sv rv hlv2  0 (kn - 1) (hW)) gX8_readLine_X7_isNumberWithin rfl ⟨rfl, rfl⟩ (by decide +kernel) ⟨Nat.le_of_ble_eq_true rfl, Nat.le_of_ble_eq_true rfl⟩ rfl hl.1 rfl (Nat.le_of_ble_eq_true rfl) dX8_readLine_52 ⟨Nat.zero_le _, Nat.zero_le _⟩ (rfl) (fun H locs hG hL => ?_)
            refine lv_if_eq (tgt := 70) hx hb dX8_readLine_55 (by decide) (fun c55 => ?_) (fun c55 => ?_)
            ·
              refine lv_iconst (v := 0) hx hb dX8_readLine_70 (by decide) ?_
              exact g_zret S.1 hr hlocks (by decide) hG hL (congrArg (fun z => some (Value.int z)) (by rw [← hF, show 12 - i = (12 - (i + 1)) + 1 by omega]; simp only [rzL, eq_false c13, eq_false c28, eq_false c44, eq_true c55, if_true, if_false])) (congr (congrArg (kJ ce0 ad K.2.2.1 cI cB cO cR) (by rw [← hF, show 12 - i = (12 - (i + 1)) + 1 by omega]; simp only [rzL, eq_false c13, eq_false c28, eq_false c44, eq_true c55, if_true, if_false])) (by rw [← hF, show 12 - i = (12 - (i + 1)) + 1 by omega]; simp only [rzL, eq_false c13, eq_false c28, eq_false c44, eq_true c55, if_true, if_false])) dX8_readLine_71
            ·
              refine lv_aload_n hx hb dX8_readLine_58 rfl (lv_at hl 0 rfl) ?_
              refine lv_iload_n hx hb dX8_readLine_59 rfl (lv_at hl 3 rfl) ?_
              refine lv_aload_n hx hb dX8_readLine_60 rfl (lv_at hl 1 rfl) ?_
              refine k_callV (n := 0) (As := []) (rest := [.int ln, .ref (ad 111)]) (st1 := .int (vVa sv rv) :: [.int ln, .ref (ad 111)]) (k := 101) (ci := 8) S hG hL (hlv.f (by decide) (by decide)) rfl rfl (c_X7_value sv rv hlv2   (hW)) gX8_readLine_X7_value rfl ⟨rfl, rfl⟩ (by decide +kernel) ⟨Nat.le_of_ble_eq_true rfl, Nat.le_of_ble_eq_true rfl⟩ rfl hl.1 rfl (Nat.le_of_ble_eq_true rfl) dX8_readLine_61 ⟨Nat.zero_le _, Nat.zero_le _⟩ (rfl) (fun H locs hG hL => ?_)
              refine k_callV (n := 2) (As := [.int ln, .int (vVa sv rv)]) (rest := []) (st1 := .int (hoV ln (vVa sv rv) rv) :: []) (k := 111) (ci := 9) S hG hL (hlv.f (by decide) (by decide)) rfl rfl (c_X8_holds sv rv hlv2  ln (vVa sv rv) (hl0) (hl1) (hz0) (hz1)) gX8_readLine_X8_holds rfl ⟨rfl, rfl⟩ (by decide +kernel) ⟨Nat.le_of_ble_eq_true rfl, Nat.le_of_ble_eq_true rfl⟩ rfl hl.1 rfl (Nat.le_of_ble_eq_true rfl) dX8_readLine_64 ⟨Nat.zero_le _, Nat.zero_le _⟩ (rfl) (fun H locs hG hL => ?_)
              refine lv_if_eq (tgt := 72) hx hb dX8_readLine_67 (by decide) (fun c67 => ?_) (fun c67 => ?_)
              ·
                refine lv_aload_n hx hb dX8_readLine_72 rfl (lv_at hl 0 rfl) ?_
                refine k_ga (C := RX8) (T := TX8) (N := 3) (ci := 9) (v := .ref (ad 120)) S hG (fun w h => List.mem_cons_of_mem _ (List.mem_append_left _ (List.mem_append_right _ h))) 111 (hlv.f (by decide) (by decide)) rfl rfl 0 (by decide) rfl (hts (.fieldLink RX8 13 "SwarmLine$Turns" "rows" "[[I") (by decide +kernel)) rfl dX8_readLine_73 ?_
                refine lv_iload_n hx hb dX8_readLine_76 rfl (lv_at hl 3 rfl) ?_
                refine k_rld (j := Int32.toNatClampNeg ln) (q := ad (150 + (Int32.toNatClampNeg ln))) S hG 120 (hlv.f (by decide) (by decide)) rfl rfl (vp_in_t hl0 (by omega)) (if_pos (ix_le hl0 (by omega))) dX8_readLine_77 ?_
                refine lv_iload hx hb dX8_readLine_78 (lv_at hl 4 rfl) ?_
                refine lv_aload_n hx hb dX8_readLine_80 rfl (lv_at hl 1 rfl) ?_
                refine k_callV (n := 0) (As := []) (rest := [.int x, .ref (ad (150 + Int32.toNatClampNeg ln))]) (st1 := .int (vVa sv rv) :: [.int x, .ref (ad (150 + Int32.toNatClampNeg ln))]) (k := 101) (ci := 8) S hG hL (hlv.f (by decide) (by decide)) rfl rfl (c_X7_value sv rv hlv2   (hW)) gX8_readLine_X7_value rfl ⟨rfl, rfl⟩ (by decide +kernel) ⟨Nat.le_of_ble_eq_true rfl, Nat.le_of_ble_eq_true rfl⟩ rfl hl.1 rfl (Nat.le_of_ble_eq_true rfl) dX8_readLine_81 ⟨Nat.zero_le _, Nat.zero_le _⟩ (rfl) (fun H locs hG hL => ?_)
                refine k_ist (j := i) S hG hL (150 + Int32.toNatClampNeg ln) (hlv.rd (ix_le hl0 (by omega))) (kJ_rd (Nat.lt_trans (ix_le (n := 17) hl0 (by omega)) (by decide))) hii (show vp_in x 12 from by rw [ex]; exact vp_in_i (by omega) (by omega)) (kw_rd (ix_le (n := 17) hl0 (by omega)) _ _) dX8_readLine_84 (fun H locs hG hL => ?_)
                refine lv_aload_n hx hb dX8_readLine_85 rfl (lv_at hl 0 rfl) ?_
                refine k_ga (C := RX8) (T := TX8) (N := 3) (ci := 9) (v := .ref (ad 122)) S hG (fun w h => List.mem_cons_of_mem _ (List.mem_append_left _ (List.mem_append_right _ h))) 111 (hlv.f (by decide) (by decide)) rfl rfl 1 (by decide) rfl (hts (.fieldLink RX8 16 "SwarmLine$Turns" "sizes" "[I") (by decide +kernel)) rfl dX8_readLine_86 ?_
                refine lv_iload_n hx hb dX8_readLine_89 rfl (lv_at hl 3 rfl) ?_
                refine lv_iload hx hb dX8_readLine_90 (lv_at hl 4 rfl) ?_
                refine lv_iconst (v := 1) hx hb dX8_readLine_92 (by decide) ?_
                refine lv_iadd hx hb dX8_readLine_93 ?_
                refine k_ist (j := Int32.toNatClampNeg ln) S hG hL 122 (hlv.f (by decide) (by decide)) rfl rfl (show vp_in ln 17 from vp_in_t hl0 (by omega)) (kw_122 _ _) dX8_readLine_94 (fun H locs hG hL => ?_)
                have hG : gW D Hb lv ad (kJ ce0 ad K.2.2.1 cI cB cO cR sv (rzU ln i sv rv)) H := by { have h9 := hG; rw [ex] at h9; exact h9 }
                refine lv_aload_n hx hb dX8_readLine_95 rfl (lv_at hl 1 rfl) ?_
                refine k_callV (n := 0) (As := []) (rest := []) (st1 := []) (k := 101) (ci := 8) S hG hL (hlv.f (by decide) (by decide)) rfl rfl (c_X7_advance sv (rzU ln i sv rv) hlv2   (hW.1) (rzU_T hT2)) gX8_readLine_X7_advance rfl ⟨rfl, rfl⟩ (by decide +kernel) ⟨Nat.le_of_ble_eq_true rfl, Nat.le_of_ble_eq_true rfl⟩ rfl hl.1 rfl (Nat.le_of_ble_eq_true rfl) dX8_readLine_96 ⟨Nat.zero_le _, Nat.zero_le _⟩ (rfl) (fun H locs hG hL => ?_)
                refine lv_aload_n hx hb dX8_readLine_99 rfl (lv_at hl 1 rfl) ?_
                refine k_callV (n := 0) (As := []) (rest := []) (st1 := .int (kAn (adS sv (rzU ln i sv rv))) :: []) (k := 101) (ci := 8) S hG hL (hlv.f (by decide) (by decide)) rfl rfl (c_X7_isAtNumber (adS sv (rzU ln i sv rv)) (rzU ln i sv rv) (hlv2.ad _)   ) gX8_readLine_X7_isAtNumber rfl ⟨rfl, rfl⟩ (by decide +kernel) ⟨Nat.le_of_ble_eq_true rfl, Nat.le_of_ble_eq_true rfl⟩ rfl hl.1 rfl (Nat.le_of_ble_eq_true rfl) dX8_readLine_100 ⟨Nat.zero_le _, Nat.zero_le _⟩ (rfl) (fun H locs hG hL => ?_)
                refine lv_if_ne (tgt := 108) hx hb dX8_readLine_103 (by decide) (fun c103 => ?_) (fun c103 => ?_)
                ·
                  refine lv_iinc (v := x + 1) (lv' := [(4, .int (x + 1)), (0, .ref (ad 111)), (1, .ref (ad 101)), (2, .int kn), (3, .int ln)]) hx hb dX8_readLine_108 hl (k := 4) rfl (by rfl) (by decide) rfl (fun ls hl => ?_)
                  refine lv_goto (tgt := 40) hx hb dX8_readLine_111 (by decide) ?_
                  exact ih  (i + 1) (x + 1) ln (adS sv (rzU ln i sv rv)) (rzU ln i sv rv) (by rw [ex]; exact nI_1 i) (by omega) (by omega) (hl0) (hl1) (ad_W hW.1) (hlv2.ad _) (rzU_T hT2) (rzU_z) (by rw [← hF, show 12 - i = (12 - (i + 1)) + 1 by omega]; simp only [rzL, eq_false c13, eq_false c28, eq_false c44, eq_false c55, eq_true c67, eq_false c103, if_true, if_false]) _ _ hG hL _ (lv_sub hl [1, 2, 3, 4, 0] rfl)
                ·
                  refine lv_iconst (v := 1) hx hb dX8_readLine_106 (by decide) ?_
                  exact g_zret S.1 hr hlocks (by decide) hG hL (congrArg (fun z => some (Value.int z)) (by rw [← hF, show 12 - i = (12 - (i + 1)) + 1 by omega]; simp only [rzL, eq_false c13, eq_false c28, eq_false c44, eq_false c55, eq_true c67, eq_true c103, if_true, if_false])) (congr (congrArg (kJ ce0 ad K.2.2.1 cI cB cO cR) (by rw [← hF, show 12 - i = (12 - (i + 1)) + 1 by omega]; simp only [rzL, eq_false c13, eq_false c28, eq_false c44, eq_false c55, eq_true c67, eq_true c103, if_true, if_false])) (by rw [← hF, show 12 - i = (12 - (i + 1)) + 1 by omega]; simp only [rzL, eq_false c13, eq_false c28, eq_false c44, eq_false c55, eq_true c67, eq_true c103, if_true, if_false])) dX8_readLine_107
              ·
                refine lv_iconst (v := 0) hx hb dX8_readLine_70 (by decide) ?_
                exact g_zret S.1 hr hlocks (by decide) hG hL (congrArg (fun z => some (Value.int z)) (by rw [← hF, show 12 - i = (12 - (i + 1)) + 1 by omega]; simp only [rzL, eq_false c13, eq_false c28, eq_false c44, eq_false c55, eq_false c67, if_true, if_false])) (congr (congrArg (kJ ce0 ad K.2.2.1 cI cB cO cR) (by rw [← hF, show 12 - i = (12 - (i + 1)) + 1 by omega]; simp only [rzL, eq_false c13, eq_false c28, eq_false c44, eq_false c55, eq_false c67, if_true, if_false])) (by rw [← hF, show 12 - i = (12 - (i + 1)) + 1 by omega]; simp only [rzL, eq_false c13, eq_false c28, eq_false c44, eq_false c55, eq_false c67, if_true, if_false])) dX8_readLine_71
      exact LP 13 0 0 ((rdD s r).1) (adS (adS ((rdD s r).2) r) r) r (rfl) (by omega) (by omega) ((rdD_ok c8).2.1) ((rdD_ok c8).2.2) (ad_W (ad_R (rdD_W hB).1)) (((hlv.nf rdD_N).ad _).ad _) (hT) ((rdD_ok c8).1) (by simp only [rlZ, eq_false c8, eq_false c13, eq_false c28, if_true, if_false]) _ _ hG hL _ (lv_sub hl [2, 3, 4, 1, 0] rfl)
    ·
      refine lv_iconst (v := 0) hx hb dX8_readLine_31 (by decide) ?_
      exact g_zret S.1 hr hlocks (by decide) hG hL (congrArg (fun z => some (Value.int z)) (by simp only [rlZ, eq_false c8, eq_false c13, eq_true c28, if_true, if_false])) (congr (congrArg (kJ ce0 ad K.2.2.1 cI cB cO cR) (by simp only [rlZ, eq_false c8, eq_false c13, eq_true c28, if_true, if_false])) (by simp only [rlZ, eq_false c8, eq_false c13, eq_true c28, if_true, if_false])) dX8_readLine_32
  ·
    have c8 := rdD_z c13
    refine lv_iconst (v := 0) hx hb dX8_readLine_16 (by decide) ?_
    exact g_zret S.1 hr hlocks (by decide) hG hL (congrArg (fun z => some (Value.int z)) (by simp only [rlZ, eq_true c8, if_true, if_false])) (congr (congrArg (kJ ce0 ad K.2.2.1 cI cB cO cR) (by simp only [rlZ, eq_true c8, if_true, if_false])) (by simp only [rlZ, eq_true c8, if_true, if_false])) dX8_readLine_17
