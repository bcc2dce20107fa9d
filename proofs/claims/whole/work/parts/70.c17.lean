/-! a row of ints is filled -/
def fiU (f : Nat → Int32) (v : Int32) (i : Nat) : Nat → Int32 := fun j => if j < i then v else f j
theorem fiU_0 (f : Nat → Int32) (v : Int32) : fiU f v 0 = f := funext fun j => if_neg (Nat.not_lt_zero j)
theorem fiU_1 (f : Nat → Int32) (v : Int32) (i : Nat) : upd (fiU f v i) i v = fiU f v (i + 1) := by
  funext j
  unfold fiU
  by_cases e : j = i
  · subst e; simp [upd]
  · by_cases h : j < i
    · simp [upd, e, h, Nat.lt_succ_of_lt h]
    · simp [upd, e, h, show ¬ j < i + 1 by omega]
theorem va_up_tw {α : Type} (f : Nat → α) (k : Nat) (a b : α) : va_up (va_up f k a) k b = va_up f k b := by
  funext j
  by_cases e : j = k
  · subst e; rw [va_up_self, va_up_self]
  · rw [va_up_ne _ _ e, va_up_ne _ _ e, va_up_ne _ _ e]
theorem va_up_id {α : Type} (f : Nat → α) (k : Nat) (a : α) (h : f k = a) : va_up f k a = f := by
  funext j
  by_cases e : j = k
  · subst e; rw [va_up_self, h]
  · rw [va_up_ne _ _ e]
set_option maxHeartbeats 600000 in
set_option maxRecDepth 100000 in
theorem c_fill {l : Launch} {D : va_G} {cI cZ cB cO cR cJ : ClassId} {Hb : Heap} {K : kTx} {lv : Nat → Prop} {ad : Nat → Nat} {ce : Nat → va_E} (k N : Nat) (hk : lv k) (hN : N ≤ 5000) (f : Nat → Int32) (he : ce k = .inl (cI, N, .inl f)) (v : Int32) : Met l yJ7_fill_53178 wsJ7_fill_53178 { frames := 0, cells := 0, slots := 0, locals := 0 } (va_Pc [.ref (ad k), .int v] (kP D (tyL cI cZ cB cO cR cJ) Hb K lv ad ce)) (gQ D Hb lv ad none (va_up ce k (.inl (cI, N, .inl (fiU f v N))))) 0 0 (gA Hb) := by
  refine Met.ofW (cc := cJ7_fill_53178) (maxL := 4) (ret := none) (by decide) rfl ?_
  intro p0 e0 s0 m0 args below meth c0 s₁ B hml hv
  obtain ⟨rfl, hG, hK, hE⟩ := hv
  have hx := B.exec
  have hb := B.bytes
  have hr := B.returns
  have hts := atoms_spec (ws := wsJ7_fill_53178) B.pre
  have hown : s0.vm.findClass RJ7 = some m0.cls := findClass_of_methodNamed B.named
  have hlocks := B.notSynchronized
  have S : CallFix p0 m0 c0 cJ7_fill_53178 4 s0 _ wsJ7_fill_53178 RJ7 := ⟨hx, hb, hml, hown, hts⟩
  have hL : gL Hb [] := gL.nil
  have hl := lv_entry ([.ref (ad k), .int v]) (n := 4) (Nat.le_of_ble_eq_true rfl)
  rw [lg_entry_eq]
  generalize (lg_sl ([.ref (ad k), .int v]) ++ List.replicate (4 - (lg_sl ([.ref (ad k), .int v])).length) Slot.unset).toArray = ls at hl ⊢
  have hl : lv_has ls 4 [(0, .ref (ad k)), (1, .int v)] := hl
  refine lv_iconst (v := 0) hx hb dJ7_fill_53178_0 (by decide) ?_
  refine lv_istore_n (lv' := [(2, .int 0), (0, .ref (ad k)), (1, .int v)]) hx hb dJ7_fill_53178_1 rfl hl (by decide) rfl (fun ls hl => ?_)
  refine lv_aload_n hx hb dJ7_fill_53178_2 rfl (lv_at hl 1 rfl) ?_
  refine g_alen (v := nI N) S hK hG k hk 0 he rfl rfl dJ7_fill_53178_3 ?_
  refine lv_istore_n (lv' := [(3, .int (nI N)), (2, .int 0), (0, .ref (ad k)), (1, .int v)]) hx hb dJ7_fill_53178_4 rfl hl (by decide) rfl (fun ls hl => ?_)
  have LP : ∀ (n i : Nat) (x : Int32) (ex : x = nI i) (hi : i ≤ N) (hn : N + 1 ≤ i + n), ∀ (H : Heap) (locs : List Loc), gW D Hb lv ad (va_up ce k (.inl (cI, N, .inl (fiU f v i)))) H → gL Hb locs → ∀ (ls : Array Slot), lv_has ls 4 [(2, .int x), (3, .int (nI N)), (0, .ref (ad k)), (1, .int v)] → W p0 l e0 (headSpec wsJ7_fill_53178 { frames := 0, cells := 0, slots := 0, locals := 0 }).room s0 m0 ([.ref (ad k), .int v] : List Value).toArray below meth c0 H locs 0 0 (MQ below (gQ D Hb lv ad none (va_up ce k (.inl (cI, N, .inl (fiU f v N))))) ([.ref (ad k), .int v] : List Value).toArray s0 0 0 (gA Hb)) (F0 m0 5 ls []) := by
    intro n
    induction n with
    | zero => intro i x ex hi hn; exact absurd hn (by omega)
    | succ n ih =>
      intro i x ex hi hn H locs hG hL ls hl
      have hii : Int32.toNatClampNeg x = i := by { rw [ex]; exact ix_nI (by omega) }
      refine lv_iload_n hx hb dJ7_fill_53178_5 rfl (lv_at hl 0 rfl) ?_
      refine lv_iload_n hx hb dJ7_fill_53178_6 rfl (lv_at hl 1 rfl) ?_
      refine lv_icmp_ge (tgt := 20) hx hb dJ7_fill_53178_7 (by decide) (fun c7 => ?_) (fun c7 => ?_)
      · have hE : i = N := by { have q := (nle (by omega) (by omega)).mp (ex ▸ c7 : nI N ≤ nI i); omega }
        exact g_vret S hr hlocks hG hL rfl (by rw [hE]) dJ7_fill_53178_20
      · have hlt : i < N := by { have q := (not_congr (nle (by omega) (by omega))).mp (ex ▸ c7 : ¬ nI N ≤ nI i); omega }
        refine lv_aload_n hx hb dJ7_fill_53178_10 rfl (lv_at hl 2 rfl) ?_
        refine lv_iload_n hx hb dJ7_fill_53178_11 rfl (lv_at hl 0 rfl) ?_
        refine lv_iload_n hx hb dJ7_fill_53178_12 rfl (lv_at hl 3 rfl) ?_
        refine g_iast (n := N) (f := fiU f v i) (i := x) S hK hG hL k hk 0 (va_up_self _ _ _) rfl (by rw [ex]; exact vp_in_i hlt hN) dJ7_fill_53178_13 (fun H locs hG hL => ?_)
        rw [hii, fiU_1, va_up_tw] at hG
        refine lv_iinc (v := x + 1) (lv' := [(2, .int (x + 1)), (3, .int (nI N)), (0, .ref (ad k)), (1, .int v)]) hx hb dJ7_fill_53178_14 hl (k := 0) rfl (by rfl) (by decide) rfl (fun ls hl => ?_)
        refine lv_goto (tgt := 5) hx hb dJ7_fill_53178_17 (by decide) ?_
        exact ih (i + 1) (x + 1) (by rw [ex]; exact nI_1 i) hlt (by omega) _ _ hG hL _ (lv_sub hl [0, 1, 2, 3] rfl)
  exact LP (N + 1) 0 0 rfl (Nat.zero_le _) (by omega) _ _ (by rw [fiU_0, va_up_id _ _ _ he]; exact hG) hL _ (lv_sub hl [1, 0, 2, 3] rfl)
def fZ (v : Int32) (r : Nat → Nat → Int32) : Nat → Nat → Int32 := va_up r 102 (fiU (r 102) v 17)
theorem c_fill122 {l : Launch} {D : va_G} {cI cZ cB cO cR cJ : ClassId} {Hb : Heap} {K : kTx} {lv : Nat → Prop} {ad : Nat → Nat} {ce0 : Nat → va_E} (s : Nat → Int32) (r : Nat → Nat → Int32) (hlv : kL lv s) (v : Int32) : kMet l D cI cZ cB cO cR cJ Hb K lv ad ce0 yJ7_fill_53178 wsJ7_fill_53178 0 0 [.ref (ad 122), .int v] s r none s (fZ v r) := by
  have h := c_fill (l := l) (D := D) (cI := cI) (cZ := cZ) (cB := cB) (cO := cO) (cR := cR) (cJ := cJ) (Hb := Hb) (K := K) (lv := lv) (ad := ad) (ce := kJ ce0 ad K.2.2.1 cI cB cO cR s r) 122 17 (hlv.f (by decide) (by decide)) (by decide) (r 102) rfl v
  have e : va_up (kJ ce0 ad K.2.2.1 cI cB cO cR s r) 122 (.inl (cI, 17, .inl (fiU (r 102) v 17))) = kJ ce0 ad K.2.2.1 cI cB cO cR s (fZ v r) := by
    refine kJ_up rfl (fun k hk => kJ_seg k ?_ (fun h => va_up_ne _ _ (by omega)) rfl (fun _ _ => rfl) (fun _ _ => rfl) (fun _ _ => rfl) (fun _ _ => rfl))
    unfold kFx
    rw [if_neg hk, if_neg hk]
    rfl
  rw [e] at h
  exact h
theorem fZ_T {v : Int32} {r : Nat → Nat → Int32} (h : hTp r) : hTp (fZ v r) := h
theorem kAe_n (s : Nat → Int32) : narrow .boolean (.int (kAe s)) = .int (kAe s) := by
  unfold kAe
  split <;> rfl
theorem tW_up {s : Nat → Int32} (h : tW s) {f : Nat} (h1 : 104 ≤ f) (v : Int32) : tW (upd s f v) := by
  have e : ∀ g, g < 104 → upd s f v g = s g := fun g hg => by simp [upd, show ¬ g = f by omega]
  unfold tW tR
  rw [e 61 (by decide), e 101 (by decide), e 102 (by decide), e 103 (by decide)]
  exact h
/-! the turns' text -/
def ktS (kn : Int32) (s : Nat → Int32) (r : Nat → Nat → Int32) : Nat → Int32 := upd (rlZ kn (adS s r) r).2.1 111 ((rlZ kn (adS s r) r).2.1 111 + 1)
def ktC (kn : Int32) : Nat → (Nat → Int32) → (Nat → Nat → Int32) → FX
  | 0, s, r => (0, adS s r, r)
  | k + 1, s, r => if (rlZ kn (adS s r) r).1 = 0 then (0, (rlZ kn (adS s r) r).2.1, (rlZ kn (adS s r) r).2.2) else if kSg 59 (ktS kn s r) (rlZ kn (adS s r) r).2.2 = 0 then (kAe (ktS kn s r), ktS kn s r, (rlZ kn (adS s r) r).2.2) else ktC kn k (ktS kn s r) (rlZ kn (adS s r) r).2.2
def ktZ (kn : Int32) (s : Nat → Int32) (r : Nat → Nat → Int32) : FX := ktC kn 10 (upd (upd s 111 0) 102 0) (fZ 0 r)
theorem ktS_W {kn : Int32} {s : Nat → Int32} {r : Nat → Nat → Int32} (h : tR s) : tW (ktS kn s r) := tW_up (rlZ_W (ad_W h)) (by decide) _
theorem ktS_L {lv : Nat → Prop} {kn : Int32} {s : Nat → Int32} {r : Nat → Nat → Int32} (h : kL lv s) : kL lv (ktS kn s r) := ((h.ad r).nf rlZ_N).up (by decide) _
theorem ktS_d {kn : Int32} {s : Nat → Int32} {r : Nat → Nat → Int32} {d : Nat} (h : s 111 = nI d) : ktS kn s r 111 = nI (d + 1) := by
  have e : (rlZ kn (adS s r) r).2.1 111 = nI d := (rlZ_N 111 (by decide) (by decide) (by decide)).trans h
  show (rlZ kn (adS s r) r).2.1 111 + 1 = nI (d + 1)
  rw [e, nI_1]

set_option maxHeartbeats 600000 in
set_option maxRecDepth 100000 in
theorem c_X8_readFrom {l : Launch} {D : va_G} {cI cZ cB cO cR cJ : ClassId} {Hb : Heap} {K : kTx} {lv : Nat → Prop} {ad : Nat → Nat} {ce0 : Nat → va_E} (s : Nat → Int32) (r : Nat → Nat → Int32) (hlv : kL lv s) (kn : Int32) (hB : 0 ≤ (s 61).toInt ∧ (s 61).toInt ≤ 400) (hT : hTp r) : kMet l D cI cZ cB cO cR cJ Hb K lv ad ce0 yX8_readFrom wsX8_readFrom 7 153 [.ref (ad 111), .ref (ad 101), .int kn] s r (some (.int ((ktZ kn s r).1))) ((ktZ kn s r).2.1) ((ktZ kn s r).2.2) := by
  refine Met.ofW (cc := cX8_readFrom) (maxL := 3) (ret := (some .boolean)) (by decide) rfl ?_
  intro p0 e0 s0 m0 args below meth c0 s₁ B hml hv
  obtain ⟨rfl, hG, hK, hE⟩ := hv
  have hx := B.exec
  have hb := B.bytes
  have hr := B.returns
  have hts := atoms_spec (ws := wsX8_readFrom) B.pre
  have hown : s0.vm.findClass RX8 = some m0.cls := findClass_of_methodNamed B.named
  have hlocks := B.notSynchronized
  have S : kX p0 m0 c0 cX8_readFrom 3 s0 _ wsX8_readFrom RX8 D (tyL cI cZ cB cO cR cJ) Hb K := ⟨⟨hx, hb, hml, hown, hts⟩, hK, hE⟩
  have hL : gL Hb [] := gL.nil
  have hH := hG.2.2.2.2
  have hl := lv_entry ([.ref (ad 111), .ref (ad 101), .int kn]) (n := 3) (Nat.le_of_ble_eq_true rfl)
  rw [lg_entry_eq]
  generalize (lg_sl ([.ref (ad 111), .ref (ad 101), .int kn]) ++ List.replicate (3 - (lg_sl ([.ref (ad 111), .ref (ad 101), .int kn])).length) Slot.unset).toArray = ls at hl ⊢
  have hl : lv_has ls 3 [(0, .ref (ad 111)), (1, .ref (ad 101)), (2, .int kn)] := hl
  refine lv_aload_n hx hb dX8_readFrom_0 rfl (lv_at hl 0 rfl) ?_
  refine k_ga (C := RX8) (T := TX8) (N := 3) (ci := 9) (v := .ref (ad 122)) S hG (fun w h => List.mem_cons_of_mem _ (List.mem_append_left _ (List.mem_append_right _ h))) 111 (hlv.f (by decide) (by decide)) rfl rfl 1 (by decide) rfl (hts (.fieldLink RX8 16 "SwarmLine$Turns" "sizes" "[I") (by decide +kernel)) rfl dX8_readFrom_1 ?_
  refine lv_iconst (v := 0) hx hb dX8_readFrom_4 (by decide) ?_
  refine k_callS (n := 2) (As := [.ref (ad 122), .int 0]) (rest := []) (st1 := []) S hG hL (c_fill122 s r hlv   0 ) gX8_readFrom_J7_fill_53178 rfl ⟨rfl, rfl⟩ (by decide +kernel) ⟨Nat.le_of_ble_eq_true rfl, Nat.le_of_ble_eq_true rfl⟩ rfl hl.1 rfl (Nat.le_of_ble_eq_true rfl) dX8_readFrom_5 ⟨Nat.zero_le _, Nat.zero_le _⟩ (rfl) (fun H locs hG hL => ?_)
  refine lv_aload_n hx hb dX8_readFrom_8 rfl (lv_at hl 0 rfl) ?_
  refine lv_iconst (v := 0) hx hb dX8_readFrom_9 (by decide) ?_
  refine k_pi (C := RX8) (T := TX8) (N := 3) (ci := 9) (ty := .int) S hG hL (fun w h => List.mem_cons_of_mem _ (List.mem_append_left _ (List.mem_append_right _ h))) tyX8 tyX8_ok nmX8 111 (hlv.f (by decide) (by decide)) rfl rfl 2 (by decide) rfl (hts (.fieldLink RX8 20 "SwarmLine$Turns" "lines" "I") (by decide +kernel)) rfl (by decide +kernel) rfl rfl (Nat.le_of_ble_eq_true rfl) (kw_111_lines _) dX8_readFrom_10 (fun H locs hG hL => ?_)
  refine lv_aload_n hx hb dX8_readFrom_13 rfl (lv_at hl 1 rfl) ?_
  refine k_callV (n := 0) (As := []) (rest := []) (st1 := []) (k := 101) (ci := 8) S hG hL (hlv.f (by decide) (by decide)) rfl rfl (c_X7_rewind (upd s 111 0) (fZ 0 r) (hlv.up (by decide) _)   ) gX8_readFrom_X7_rewind rfl ⟨rfl, rfl⟩ (by decide +kernel) ⟨Nat.le_of_ble_eq_true rfl, Nat.le_of_ble_eq_true rfl⟩ rfl hl.1 rfl (Nat.le_of_ble_eq_true rfl) dX8_readFrom_14 ⟨Nat.zero_le _, Nat.zero_le _⟩ (rfl) (fun H locs hG hL => ?_)
  have LP : ∀ (n : Nat) (d : Nat) (sv : Nat → Int32) (rv : Nat → Nat → Int32) (hd : sv 111 = nI d) (hi : d ≤ 10) (hn : 11 ≤ d + n) (hR : tR sv) (hlv2 : kL lv sv) (hT2 : hTp rv) (hF : ktC kn (10 - d) sv rv = ktZ kn s r), ∀ (H : Heap) (locs : List Loc), gW D Hb lv ad (kJ ce0 ad K.2.2.1 cI cB cO cR sv rv) H → gL Hb locs → ∀ (ls : Array Slot), lv_has ls 3 [(0, .ref (ad 111)), (1, .ref (ad 101)), (2, .int kn)] → W p0 l e0 (headSpec wsX8_readFrom { frames := 7, cells := 0, slots := 0, locals := 153 }).room s0 m0 ([.ref (ad 111), .ref (ad 101), .int kn] : List Value).toArray below meth c0 H locs 0 0 (MQ below (gQ D Hb lv ad (some (.int ((ktZ kn s r).1))) (kJ ce0 ad K.2.2.1 cI cB cO cR ((ktZ kn s r).2.1) ((ktZ kn s r).2.2))) ([.ref (ad 111), .ref (ad 101), .int kn] : List Value).toArray s0 0 0 (gA Hb)) (F0 m0 17 ls []) := by
    intro n
    induction n with
    | zero => intro d sv rv hd hi hn hR hlv2 hT2 hF; exact absurd hn (by omega)
    | succ n ih =>
      intro d sv rv hd hi hn hR hlv2 hT2 hF H locs hG hL ls hl
      refine lv_aload_n hx hb dX8_readFrom_17 rfl (lv_at hl 0 rfl) ?_
      refine k_gi (C := RX8) (T := TX8) (N := 3) (ci := 9) (v := sv 111) S hG (fun w h => List.mem_cons_of_mem _ (List.mem_append_left _ (List.mem_append_right _ h))) 111 (hlv.f (by decide) (by decide)) rfl rfl 2 (by decide) rfl (hts (.fieldLink RX8 20 "SwarmLine$Turns" "lines" "I") (by decide +kernel)) rfl (rfl) dX8_readFrom_18 ?_
      refine lv_bipush (v := 10) hx hb dX8_readFrom_21 (by decide) ?_
      refine lv_icmp_ge (tgt := 65) hx hb dX8_readFrom_23 (by decide) (fun c23 => ?_) (fun c23 => ?_)
      ·
        have hE : d = 10 := by { have q := (nle (by omega) (by omega)).mp (hd ▸ c23 : nI 10 ≤ nI d); omega }
        refine lv_aload_n hx hb dX8_readFrom_65 rfl (lv_at hl 1 rfl) ?_
        refine k_callV (n := 0) (As := []) (rest := []) (st1 := []) (k := 101) (ci := 8) S hG hL (hlv.f (by decide) (by decide)) rfl rfl (c_X7_advance sv rv hlv2   (hR) (hT2)) gX8_readFrom_X7_advance rfl ⟨rfl, rfl⟩ (by decide +kernel) ⟨Nat.le_of_ble_eq_true rfl, Nat.le_of_ble_eq_true rfl⟩ rfl hl.1 rfl (Nat.le_of_ble_eq_true rfl) dX8_readFrom_66 ⟨Nat.zero_le _, Nat.zero_le _⟩ (rfl) (fun H locs hG hL => ?_)
        refine lv_iconst (v := 0) hx hb dX8_readFrom_69 (by decide) ?_
        exact g_zret S.1 hr hlocks (by decide) hG hL (congrArg (fun z => some (Value.int z)) (by rw [← hF, hE]; rfl)) (congr (congrArg (kJ ce0 ad K.2.2.1 cI cB cO cR) (by rw [← hF, hE]; rfl)) (by rw [← hF, hE]; rfl)) dX8_readFrom_70
      ·
        have hlt : d < 10 := by { have q := (not_congr (nle (by omega) (by omega))).mp (hd ▸ c23 : ¬ nI 10 ≤ nI d); omega }
        refine lv_aload_n hx hb dX8_readFrom_26 rfl (lv_at hl 1 rfl) ?_
        refine k_callV (n := 0) (As := []) (rest := []) (st1 := []) (k := 101) (ci := 8) S hG hL (hlv.f (by decide) (by decide)) rfl rfl (c_X7_advance sv rv hlv2   (hR) (hT2)) gX8_readFrom_X7_advance rfl ⟨rfl, rfl⟩ (by decide +kernel) ⟨Nat.le_of_ble_eq_true rfl, Nat.le_of_ble_eq_true rfl⟩ rfl hl.1 rfl (Nat.le_of_ble_eq_true rfl) dX8_readFrom_27 ⟨Nat.zero_le _, Nat.zero_le _⟩ (rfl) (fun H locs hG hL => ?_)
        refine lv_aload_n hx hb dX8_readFrom_30 rfl (lv_at hl 0 rfl) ?_
        refine lv_aload_n hx hb dX8_readFrom_31 rfl (lv_at hl 1 rfl) ?_
        refine lv_iload_n hx hb dX8_readFrom_32 rfl (lv_at hl 2 rfl) ?_
        refine k_callV (n := 2) (As := [.ref (ad 101), .int kn]) (rest := []) (st1 := .int ((rlZ kn (adS sv rv) rv).1) :: []) (k := 111) (ci := 9) S hG hL (hlv.f (by decide) (by decide)) rfl rfl (c_X8_readLine (adS sv rv) rv (hlv2.ad rv)   kn (ad_W hR) (hT2)) gX8_readFrom_X8_readLine rfl ⟨rfl, rfl⟩ (by decide +kernel) ⟨Nat.le_of_ble_eq_true rfl, Nat.le_of_ble_eq_true rfl⟩ rfl hl.1 rfl (Nat.le_of_ble_eq_true rfl) dX8_readFrom_33 ⟨Nat.zero_le _, Nat.zero_le _⟩ (rfl) (fun H locs hG hL => ?_)
        refine lv_if_ne (tgt := 41) hx hb dX8_readFrom_36 (by decide) (fun c36 => ?_) (fun c36 => ?_)
        ·
          refine lv_aload_n hx hb dX8_readFrom_41 rfl (lv_at hl 0 rfl) ?_
          refine lv_dup hx hb dX8_readFrom_42 rfl ?_
          refine k_gi (C := RX8) (T := TX8) (N := 3) (ci := 9) (v := ((rlZ kn (adS sv rv) rv).2.1) 111) S hG (fun w h => List.mem_cons_of_mem _ (List.mem_append_left _ (List.mem_append_right _ h))) 111 (hlv.f (by decide) (by decide)) rfl rfl 2 (by decide) rfl (hts (.fieldLink RX8 20 "SwarmLine$Turns" "lines" "I") (by decide +kernel)) rfl (rfl) dX8_readFrom_43 ?_
          refine lv_iconst (v := 1) hx hb dX8_readFrom_46 (by decide) ?_
          refine lv_iadd hx hb dX8_readFrom_47 ?_
          refine k_pi (C := RX8) (T := TX8) (N := 3) (ci := 9) (ty := .int) S hG hL (fun w h => List.mem_cons_of_mem _ (List.mem_append_left _ (List.mem_append_right _ h))) tyX8 tyX8_ok nmX8 111 (hlv.f (by decide) (by decide)) rfl rfl 2 (by decide) rfl (hts (.fieldLink RX8 20 "SwarmLine$Turns" "lines" "I") (by decide +kernel)) rfl (by decide +kernel) rfl rfl (Nat.le_of_ble_eq_true rfl) (kw_111_lines _) dX8_readFrom_48 (fun H locs hG hL => ?_)
          have hG : gW D Hb lv ad (kJ ce0 ad K.2.2.1 cI cB cO cR (ktS kn sv rv) ((rlZ kn (adS sv rv) rv).2.2)) H := hG
          refine lv_aload_n hx hb dX8_readFrom_51 rfl (lv_at hl 1 rfl) ?_
          refine lv_bipush (v := 59) hx hb dX8_readFrom_52 (by decide) ?_
          refine k_callV (n := 1) (As := [.int 59]) (rest := []) (st1 := .int (kSg 59 (ktS kn sv rv) ((rlZ kn (adS sv rv) rv).2.2)) :: []) (k := 101) (ci := 8) S hG hL (hlv.f (by decide) (by decide)) rfl rfl (c_X7_isSign (ktS kn sv rv) ((rlZ kn (adS sv rv) rv).2.2) (ktS_L hlv2)  59 (ktS_W hR)) gX8_readFrom_X7_isSign rfl ⟨rfl, rfl⟩ (by decide +kernel) ⟨Nat.le_of_ble_eq_true rfl, Nat.le_of_ble_eq_true rfl⟩ rfl hl.1 rfl (Nat.le_of_ble_eq_true rfl) dX8_readFrom_54 ⟨Nat.zero_le _, Nat.zero_le _⟩ (rfl) (fun H locs hG hL => ?_)
          refine lv_if_ne (tgt := 17) hx hb dX8_readFrom_57 (by decide) (fun c57 => ?_) (fun c57 => ?_)
          ·
            exact ih  (d + 1) (ktS kn sv rv) ((rlZ kn (adS sv rv) rv).2.2) (ktS_d hd) (hlt) (by omega) ((ktS_W hR).1) (ktS_L hlv2) (rlZ_T hT2) (by rw [← hF, show 10 - d = (10 - (d + 1)) + 1 by omega]; simp only [ktC, eq_false c23, eq_false c36, eq_false c57, if_true, if_false]) _ _ hG hL _ (lv_sub hl [0, 1, 2] rfl)
          ·
            refine lv_aload_n hx hb dX8_readFrom_60 rfl (lv_at hl 1 rfl) ?_
            refine k_callV (n := 0) (As := []) (rest := []) (st1 := .int (kAe (ktS kn sv rv)) :: []) (k := 101) (ci := 8) S hG hL (hlv.f (by decide) (by decide)) rfl rfl (c_X7_isAtEnd (ktS kn sv rv) ((rlZ kn (adS sv rv) rv).2.2) (ktS_L hlv2)   ) gX8_readFrom_X7_isAtEnd rfl ⟨rfl, rfl⟩ (by decide +kernel) ⟨Nat.le_of_ble_eq_true rfl, Nat.le_of_ble_eq_true rfl⟩ rfl hl.1 rfl (Nat.le_of_ble_eq_true rfl) dX8_readFrom_61 ⟨Nat.zero_le _, Nat.zero_le _⟩ (rfl) (fun H locs hG hL => ?_)
            exact g_zret S.1 hr hlocks (kAe_n _) hG hL (congrArg (fun z => some (Value.int z)) (by rw [← hF, show 10 - d = (10 - (d + 1)) + 1 by omega]; simp only [ktC, eq_false c23, eq_false c36, eq_true c57, if_true, if_false])) (congr (congrArg (kJ ce0 ad K.2.2.1 cI cB cO cR) (by rw [← hF, show 10 - d = (10 - (d + 1)) + 1 by omega]; simp only [ktC, eq_false c23, eq_false c36, eq_true c57, if_true, if_false])) (by rw [← hF, show 10 - d = (10 - (d + 1)) + 1 by omega]; simp only [ktC, eq_false c23, eq_false c36, eq_true c57, if_true, if_false])) dX8_readFrom_64
        ·
          refine lv_iconst (v := 0) hx hb dX8_readFrom_39 (by decide) ?_
          exact g_zret S.1 hr hlocks (by decide) hG hL (congrArg (fun z => some (Value.int z)) (by rw [← hF, show 10 - d = (10 - (d + 1)) + 1 by omega]; simp only [ktC, eq_false c23, eq_true c36, if_true, if_false])) (congr (congrArg (kJ ce0 ad K.2.2.1 cI cB cO cR) (by rw [← hF, show 10 - d = (10 - (d + 1)) + 1 by omega]; simp only [ktC, eq_false c23, eq_true c36, if_true, if_false])) (by rw [← hF, show 10 - d = (10 - (d + 1)) + 1 by omega]; simp only [ktC, eq_false c23, eq_true c36, if_true, if_false])) dX8_readFrom_40
  exact LP 11 0 (upd (upd s 111 0) 102 0) (fZ 0 r) (rfl) (by decide) (by omega) (⟨hB.1, hB.2, show 0 ≤ (0 : Int32).toInt from by decide, by { show (0 : Int32).toInt ≤ (s 61).toInt; rw [t_0]; exact hB.1 }⟩) ((hlv.up (by decide) _).up (by decide) _) (hT) (rfl) _ _ hG hL _ (lv_sub hl [0, 1, 2] rfl)
