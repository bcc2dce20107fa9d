/-! sending -/
theorem kL.upn {lv : Nat → Prop} {s : Nat → Int32} (h : kL lv s) {f : Nat} (h6 : ¬ 6 = f) (h14 : ¬ 14 = f) (h26 : ¬ 26 = f) (h39 : ¬ 39 = f) (v : Int32) : kL lv (upd s f v) := by
  have e : ∀ g, ¬ g = f → upd s f v g = s g := fun g hg => by simp [upd, hg]
  unfold kL
  rw [e 6 h6, e 14 h14, e 26 h26, e 39 h39]
  exact h
def xSd (c : Int32) (s : Nat → Int32) (r : Nat → Nat → Int32) : Option String := if fIs (s 39) c = 0 then some "java/lang/IndexOutOfBoundsException" else if r 41 (Int32.toNatClampNeg c) = 0 then none else some "java/lang/IllegalStateException"
def ksL (c : Int32) (r : Nat → Nat → Int32) : Int32 := kLf (r 43 (Int32.toNatClampNeg c) / 5 * 4 + r 42 (Int32.toNatClampNeg c) / 5) r
def ksK (L : Int32) (i : Nat) (r : Nat → Nat → Int32) : Int32 := r (110 + Int32.toNatClampNeg L) i
def ksG (c L : Int32) (i : Nat) (s : Nat → Int32) (r : Nat → Nat → Int32) : Int32 := kAg (Int32.toNatClampNeg (ksK L i r)) (Int32.toNatClampNeg c) s r
def ksR (c L : Int32) (s : Nat → Int32) (r : Nat → Nat → Int32) : Nat → Nat → Nat → Int32
  | 0 => r
  | n + 1 => up2 (up2 (ksR c L s r n) 58 n (ksK L n r)) 59 n (ksG c L n s r)
theorem ksR_n {f : Nat} (h1 : ¬ f = 58) (h2 : ¬ f = 59) (c L : Int32) (s : Nat → Int32) (r : Nat → Nat → Int32) : ∀ n, ksR c L s r n f = r f
  | 0 => rfl
  | n + 1 => (up2_nn _ _ _ h2).trans ((up2_nn _ _ _ h1).trans (ksR_n h1 h2 c L s r n))
def ksA (k c : Int32) (r : Nat → Nat → Int32) : Nat → Nat → Int32 := up2 (up2 (soR (Int32.toNatClampNeg k) c (r 42 (Int32.toNatClampNeg c)) (r 43 (Int32.toNatClampNeg c)) r) 41 (Int32.toNatClampNeg c) 1) 50 (Int32.toNatClampNeg c) k
def ksT (c L : Int32) (s : Nat → Int32) (r : Nat → Nat → Int32) : Nat → Nat → FX
  | 0, i => (-1, upd s 57 (nI i), ksR c L s r i)
  | n + 1, i => if ksG c L i s r = 0 then (ksK L i r, upd s 57 (nI (i + 1)), ksA (ksK L i r) c (ksR c L s r (i + 1))) else ksT c L s r n (i + 1)
def ksX (c : Int32) (s : Nat → Int32) (r : Nat → Nat → Int32) : FX := ksT c (ksL c r) s r (kSz (ksL c r) r).toNatClampNeg 0
theorem kAg_o {i j : Nat} {s s' : Nat → Int32} {r r' : Nat → Nat → Int32} (hs : s' 1 = s 1) (e : ∀ f, ¬ f = 58 → ¬ f = 59 → r' f = r f) : kAg i j s' r' = kAg i j s r := by
  unfold kAg kOd
  rw [hs, e 29 (by decide) (by decide), e 30 (by decide) (by decide), e 32 (by decide) (by decide), e 33 (by decide) (by decide), e 34 (by decide) (by decide), e 45 (by decide) (by decide)]
theorem kSz_o {l : Int32} {r r' : Nat → Nat → Int32} (e : ∀ f, ¬ f = 58 → ¬ f = 59 → r' f = r f) : kSz l r' = kSz l r := by
  unfold kSz
  rw [e 101 (by decide) (by decide)]
theorem kKa_o {l : Int32} {i : Nat} {r r' : Nat → Nat → Int32} (e : ∀ f, ¬ f = 58 → ¬ f = 59 → r' f = r f) (h0 : 0 ≤ (kSz l r).toInt) (h1 : (kSz l r).toInt ≤ 12) (hi : i < (kSz l r).toNatClampNeg) : kKa l (nI i) r' = ksK l i r := by
  have hh := t_ix h0
  have a : ¬ nI i < 0 := by rw [t_lt, nI_toInt (by omega), t_0]; omega
  have b : ¬ kSz l r' ≤ nI i := by rw [kSz_o e, t_le, nI_toInt (by omega)]; omega
  unfold kKa ksK
  rw [if_neg a, if_neg b, ix_nI (by omega), e _ (by omega) (by omega)]
theorem aaS_e {s : Nat → Int32} {i : Nat} (h : i < 12) : aaS (upd s 57 (nI i)) = upd s 57 (nI (i + 1)) := by
  have c : ¬ 12 ≤ upd s 57 (nI i) 57 := by
    have z : upd s 57 (nI i) 57 = nI i := by simp [upd]
    rw [z]
    intro q
    have q2 : nI 12 ≤ nI i := q
    have := (nle (by omega) (by omega)).mp q2
    omega
  have z : upd s 57 (nI i) 57 + 1 = nI (i + 1) := by
    have z : upd s 57 (nI i) 57 = nI i := by simp [upd]
    rw [z, nI_1]
  unfold aaS
  rw [if_neg c, z, upd_tw]
theorem aaR_e {s : Nat → Int32} {r : Nat → Nat → Int32} {i : Nat} {k a : Int32} (h : i < 12) : aaR k a (upd s 57 (nI i)) r = up2 (up2 r 58 i k) 59 i a := by
  have z : upd s 57 (nI i) 57 = nI i := by simp [upd]
  have c : ¬ 12 ≤ upd s 57 (nI i) 57 := by
    rw [z]
    intro q
    have q2 : nI 12 ≤ nI i := q
    have := (nle (by omega) (by omega)).mp q2
    omega
  unfold aaR
  rw [if_neg c, z, ix_nI (by omega)]

set_option maxHeartbeats 1600000 in
set_option maxRecDepth 100000 in
theorem c_X9_send {l : Launch} {D : va_G} {cI cZ cB cO cR cJ : ClassId} {Hb : Heap} {K : kTx} {lv : Nat → Prop} {ad : Nat → Nat} {ce0 : Nat → va_E} (hst : l.stackTraces = false) (s : Nat → Int32) (r : Nat → Nat → Int32) (hlv : kL lv s) (c : Int32) (hb9 : (s 39).toInt ≤ 60) (hk9 : (s 26).toInt ≤ 60) (hz0 : ∀ l : Int32, 0 ≤ (kSz l r).toInt) (hz12 : ∀ l : Int32, (kSz l r).toInt ≤ 12) (htn : ∀ l i, i < (kSz l r).toNatClampNeg → 0 ≤ (ksK l i r).toInt ∧ (ksK l i r).toInt < (s 26).toInt) (hd : ∀ a b, a < (s 26).toNatClampNeg → b < (s 39).toNatClampNeg → (kSt (r 27 a) (r 28 a) (r 42 b) (r 43 b)).toInt ≤ 19) : xMet l D cI cZ cB cO cR cJ Hb K lv ad ce0 yX9_send wsX9_send 7 113 2 [.ref (ad 100), .int c] s r (xSd c s r) (some (.int ((ksX c s r).1))) ((ksX c s r).2.1) ((ksX c s r).2.2) s r := by
  refine vx_ofW (cc := cX9_send) (maxL := 8) (ret := (some .int)) (by decide) rfl ?_
  intro p0 e0 s0 m0 args below meth c0 s₁ B hml hout hv
  obtain ⟨rfl, hG, hK, hE⟩ := hv
  have hx := B.exec
  have hb := B.bytes
  have hr := B.returns
  have hts := atoms_spec (ws := wsX9_send) B.pre
  have hown : s0.vm.findClass RX9 = some m0.cls := findClass_of_methodNamed B.named
  have hlocks := B.notSynchronized
  have S : kX p0 m0 c0 cX9_send 8 s0 _ wsX9_send RX9 D (tyL cI cZ cB cO cR cJ) Hb K := ⟨⟨hx, hb, hml, hown, hts⟩, hK, hE⟩
  have hL : gL Hb [] := gL.nil
  have hH := hG.2.2.2.2
  have hl := lv_entry ([.ref (ad 100), .int c]) (n := 8) (Nat.le_of_ble_eq_true rfl)
  rw [lg_entry_eq]
  generalize (lg_sl ([.ref (ad 100), .int c]) ++ List.replicate (8 - (lg_sl ([.ref (ad 100), .int c])).length) Slot.unset).toArray = ls at hl ⊢
  have hl : lv_has ls 8 [(0, .ref (ad 100)), (1, .int c)] := hl
  refine lv_aload_n hx hb dX9_send_0 rfl (lv_at hl 0 rfl) ?_
  refine lv_iload_n hx hb dX9_send_1 rfl (lv_at hl 1 rfl) ?_
  refine x_callV (n := 1) (As := [.int c]) (rest := []) (st1 := .ref (ad (4000 + Int32.toNatClampNeg c)) :: []) (k := 100) (ci := 10) S hG hL (hlv.f (by decide) (by decide)) rfl rfl (c_X9_caseNumbered hst s r hlv  c (hb9)) gX9_send_X9_caseNumbered rfl ⟨rfl, rfl⟩ (by decide +kernel) ⟨Nat.le_of_ble_eq_true rfl, Nat.le_of_ble_eq_true rfl⟩ rfl hl.1 rfl (Nat.le_of_ble_eq_true rfl) dX9_send_2 ⟨Nat.le_of_ble_eq_true rfl, Nat.le_of_ble_eq_true rfl⟩ hout hlocks (fun E9 h9 => ⟨by simp only [xNm, xSd] at h9 ⊢; split at h9 <;> simp_all, rfl⟩) ⟨Nat.le_of_ble_eq_true rfl, Nat.le_of_ble_eq_true rfl⟩ (rfl) (fun ht2 H locs hG hL => ?_)
  refine lv_astore_n (lv' := [(2, .ref (ad (4000 + Int32.toNatClampNeg c))), (0, .ref (ad 100)), (1, .int c)]) hx hb dX9_send_5 rfl hl (by decide) rfl (fun ls hl => ?_)
  refine lv_aload_n hx hb dX9_send_6 rfl (lv_at hl 0 rfl) ?_
  refine k_giN (C := RX1) (T := TX1) (N := 11) (ci := 2) (v := r 41 (Int32.toNatClampNeg c)) S hG (fun w h => List.mem_cons_of_mem _ (List.mem_append_left _ (List.mem_append_left _ (List.mem_append_left _ (List.mem_append_left _ (List.mem_append_left _ (List.mem_append_left _ (List.mem_append_left _ (List.mem_append_right _ h))))))))) (4000 + Int32.toNatClampNeg c) (hlv.ca (xNm_lt ht2)) (kJ_ca (xNm_9 ht2 hb9)) rfl 3 (by decide) rfl (by decide +kernel) rfl (rfl) dX9_send_7 ?_
  refine lv_if_eq (tgt := 23) hx hb dX9_send_10 (by decide) (fun c10 => ?_) (fun c10 => ?_)
  ·
    refine lv_aload_n hx hb dX9_send_23 rfl (lv_at hl 1 rfl) ?_
    refine k_ga (C := RX9) (T := TX9) (N := 14) (ci := 10) (v := .ref (ad 104)) S hG (fun w h => List.mem_cons_of_mem _ (List.mem_append_left _ (List.mem_append_left _ (List.mem_append_left _ (List.mem_append_left _ (List.mem_append_left _ (List.mem_append_left _ (List.mem_append_right _ h)))))))) 100 (hlv.f (by decide) (by decide)) rfl rfl 3 (by decide) rfl (hts (.fieldLink RX9 33 "SwarmLine" "askedLast" "LSwarmLine$Asked;") (by decide +kernel)) rfl dX9_send_24 ?_
    refine k_callV (n := 0) (As := []) (rest := []) (st1 := []) (k := 104) (ci := 1) S hG hL (hlv.f (by decide) (by decide)) rfl rfl (c_X0_clear s r hlv   ) gX9_send_X0_clear rfl ⟨rfl, rfl⟩ (by decide +kernel) ⟨Nat.le_of_ble_eq_true rfl, Nat.le_of_ble_eq_true rfl⟩ rfl hl.1 rfl (Nat.le_of_ble_eq_true rfl) dX9_send_27 ⟨Nat.le_of_ble_eq_true rfl, Nat.le_of_ble_eq_true rfl⟩ (rfl) (fun H locs hG hL => ?_)
    refine lv_aload_n hx hb dX9_send_30 rfl (lv_at hl 1 rfl) ?_
    refine k_ga (C := RX9) (T := TX9) (N := 14) (ci := 10) (v := .ref (ad 110)) S hG (fun w h => List.mem_cons_of_mem _ (List.mem_append_left _ (List.mem_append_left _ (List.mem_append_left _ (List.mem_append_left _ (List.mem_append_left _ (List.mem_append_left _ (List.mem_append_right _ h)))))))) 100 (hlv.f (by decide) (by decide)) rfl rfl 9 (by decide) rfl (hts (.fieldLink RX9 60 "SwarmLine" "turns" "LSwarmLine$Turns;") (by decide +kernel)) rfl dX9_send_31 ?_
    refine lv_aload_n hx hb dX9_send_34 rfl (lv_at hl 0 rfl) ?_
    refine k_giN (C := RX1) (T := TX1) (N := 11) (ci := 2) (v := r 42 (Int32.toNatClampNeg c)) S hG (fun w h => List.mem_cons_of_mem _ (List.mem_append_left _ (List.mem_append_left _ (List.mem_append_left _ (List.mem_append_left _ (List.mem_append_left _ (List.mem_append_left _ (List.mem_append_left _ (List.mem_append_right _ h))))))))) (4000 + Int32.toNatClampNeg c) (hlv.ca (xNm_lt ht2)) (kJ_ca (xNm_9 ht2 hb9)) rfl 0 (by decide) rfl (by decide +kernel) rfl (rfl) dX9_send_35 ?_
    refine lv_aload_n hx hb dX9_send_38 rfl (lv_at hl 0 rfl) ?_
    refine k_giN (C := RX1) (T := TX1) (N := 11) (ci := 2) (v := r 43 (Int32.toNatClampNeg c)) S hG (fun w h => List.mem_cons_of_mem _ (List.mem_append_left _ (List.mem_append_left _ (List.mem_append_left _ (List.mem_append_left _ (List.mem_append_left _ (List.mem_append_left _ (List.mem_append_left _ (List.mem_append_right _ h))))))))) (4000 + Int32.toNatClampNeg c) (hlv.ca (xNm_lt ht2)) (kJ_ca (xNm_9 ht2 hb9)) rfl 1 (by decide) rfl (by decide +kernel) rfl (rfl) dX9_send_39 ?_
    refine m_callP (n := 2) (As := [.int (r 42 (Int32.toNatClampNeg c)), .int (r 43 (Int32.toNatClampNeg c))]) (rest := [.ref (ad 110)]) (st1 := .int ((r 43 (Int32.toNatClampNeg c)) / 5 * 4 + (r 42 (Int32.toNatClampNeg c)) / 5) :: [.ref (ad 110)]) S.1 (c_X9_districtOf (r 42 (Int32.toNatClampNeg c)) (r 43 (Int32.toNatClampNeg c))) gX9_send_X9_districtOf rfl (by decide +kernel) ⟨Nat.le_of_ble_eq_true rfl, Nat.le_of_ble_eq_true rfl⟩ rfl hl.1 rfl (Nat.le_of_ble_eq_true rfl) dX9_send_42 ⟨Nat.le_of_ble_eq_true rfl, Nat.le_of_ble_eq_true rfl⟩ (rfl) ?_
    refine k_callV (n := 1) (As := [.int ((r 43 (Int32.toNatClampNeg c)) / 5 * 4 + (r 42 (Int32.toNatClampNeg c)) / 5)]) (rest := []) (st1 := .int (ksL c r) :: []) (k := 110) (ci := 9) S hG hL (hlv.f (by decide) (by decide)) rfl rfl (c_X8_lineFor (upd s 57 0) r (hlv.upn (by decide) (by decide) (by decide) (by decide) _)  ((r 43 (Int32.toNatClampNeg c)) / 5 * 4 + (r 42 (Int32.toNatClampNeg c)) / 5) ) gX9_send_X8_lineFor rfl ⟨rfl, rfl⟩ (by decide +kernel) ⟨Nat.le_of_ble_eq_true rfl, Nat.le_of_ble_eq_true rfl⟩ rfl hl.1 rfl (Nat.le_of_ble_eq_true rfl) dX9_send_45 ⟨Nat.le_of_ble_eq_true rfl, Nat.le_of_ble_eq_true rfl⟩ (rfl) (fun H locs hG hL => ?_)
    refine lv_istore_n (lv' := [(3, .int (ksL c r)), (2, .ref (ad (4000 + Int32.toNatClampNeg c))), (0, .ref (ad 100)), (1, .int c)]) hx hb dX9_send_48 rfl hl (by decide) rfl (fun ls hl => ?_)
    refine lv_iconst (v := 0) hx hb dX9_send_49 (by decide) ?_
    refine lv_istore (lv' := [(4, .int 0), (3, .int (ksL c r)), (2, .ref (ad (4000 + Int32.toNatClampNeg c))), (0, .ref (ad 100)), (1, .int c)]) hx hb dX9_send_50 hl (by decide) rfl (fun ls hl => ?_)
    have LP : ∀ (n : Nat) (i : Nat) (x : Int32) (y : Int32) (rv : Nat → Nat → Int32) (ex : x = nI i) (hi : i ≤ (kSz (ksL c r) r).toNatClampNeg) (hn : (kSz (ksL c r) r).toNatClampNeg + 1 ≤ i + n) (hS : y = nI i) (hR : rv = ksR c (ksL c r) s r i) (hF : ksT c (ksL c r) s r ((kSz (ksL c r) r).toNatClampNeg - i) i = ksX c s r), ∀ (H : Heap) (locs : List Loc), gW D Hb lv ad (kJ ce0 ad K.2.2.1 cI cB cO cR (upd s 57 y) rv) H → gL Hb locs → ∀ (ls : Array Slot), lv_has ls 8 [(0, .ref (ad 100)), (1, .int c), (2, .ref (ad (4000 + Int32.toNatClampNeg c))), (3, .int (ksL c r)), (4, .int x)] → W p0 l e0 (headSpec wsX9_send { frames := 7, cells := 2, slots := 12, locals := 113 }).room s0 m0 ([.ref (ad 100), .int c] : List Value).toArray below meth c0 H locs (0 + 1) (0 + 6 * 1) (vx_MQ below (xQ D Hb lv ad (xSd c s r) (some (.int ((ksX c s r).1))) (kJ ce0 ad K.2.2.1 cI cB cO cR ((ksX c s r).2.1) ((ksX c s r).2.2))) (xX D Hb lv ad (xSd c s r) (kJ ce0 ad K.2.2.1 cI cB cO cR s r)) ([.ref (ad 100), .int c] : List Value).toArray s0 2 12 (gA Hb)) (F0 m0 52 ls []) := by
      intro n
      induction n with
      | zero => intro i x y rv ex hi hn hS hR hF; exact absurd hn (by omega)
      | succ n ih =>
        intro i x y rv ex hi hn hS hR hF H locs hG hL ls hl
        have hbd : (kSz (ksL c r) r).toNatClampNeg ≤ 12 := t_ixl (hz0 _) (hz12 _); have hii : Int32.toNatClampNeg x = i := by { rw [ex]; exact ix_nI (by omega) }; have hlv2 : kL lv (upd s 57 y) := hlv.upn (by decide) (by decide) (by decide) (by decide) _; have hO : ∀ f, ¬ f = 58 → ¬ f = 59 → rv f = r f := fun f a b => by { rw [hR]; exact ksR_n a b .. }; have hzz : kSz (ksL c r) rv = kSz (ksL c r) r := kSz_o hO
        refine lv_iload hx hb dX9_send_52 (lv_at hl 4 rfl) ?_
        refine lv_aload_n hx hb dX9_send_54 rfl (lv_at hl 0 rfl) ?_
        refine k_ga (C := RX9) (T := TX9) (N := 14) (ci := 10) (v := .ref (ad 110)) S hG (fun w h => List.mem_cons_of_mem _ (List.mem_append_left _ (List.mem_append_left _ (List.mem_append_left _ (List.mem_append_left _ (List.mem_append_left _ (List.mem_append_left _ (List.mem_append_right _ h)))))))) 100 (hlv.f (by decide) (by decide)) rfl rfl 9 (by decide) rfl (hts (.fieldLink RX9 60 "SwarmLine" "turns" "LSwarmLine$Turns;") (by decide +kernel)) rfl dX9_send_55 ?_
        refine lv_iload_n hx hb dX9_send_58 rfl (lv_at hl 3 rfl) ?_
        refine k_callV (n := 1) (As := [.int (ksL c r)]) (rest := [.int x]) (st1 := .int (kSz (ksL c r) r) :: [.int x]) (k := 110) (ci := 9) S hG hL (hlv.f (by decide) (by decide)) rfl rfl (c_X8_sizeOf (upd s 57 y) rv hlv2  (ksL c r) ) gX9_send_X8_sizeOf rfl ⟨rfl, rfl⟩ (by decide +kernel) ⟨Nat.le_of_ble_eq_true rfl, Nat.le_of_ble_eq_true rfl⟩ rfl hl.1 rfl (Nat.le_of_ble_eq_true rfl) dX9_send_59 ⟨Nat.le_of_ble_eq_true rfl, Nat.le_of_ble_eq_true rfl⟩ (by rw [hzz]; rfl) (fun H locs hG hL => ?_)
        refine lv_icmp_ge (tgt := 144) hx hb dX9_send_62 (by decide) (fun c62 => ?_) (fun c62 => ?_)
        ·
          have hEq := cl_ge (hz0 _) hi (ex ▸ c62); have hZ : ksX c s r = (-1, upd s 57 y, rv) := by { rw [← hF, show (kSz (ksL c r) r).toNatClampNeg - i = 0 by omega, hS, hR]; rfl }
          refine lv_iconst (v := (-1)) hx hb dX9_send_144 (by decide) ?_
          exact x_iret S.1 hr hlocks hG hL (by simp only [xSd, eq_false (xNm_n ht2), eq_true c10, if_true, if_false]) (congrArg (fun z => some (Value.int z)) (by rw [hZ])) (congr (congrArg (kJ ce0 ad K.2.2.1 cI cB cO cR) (by rw [hZ])) (by rw [hZ])) dX9_send_145 (Nat.le_of_ble_eq_true rfl) (Nat.le_of_ble_eq_true rfl)
        ·
          have hlt := cl_lt (hz0 _) hi (ex ▸ c62); have hk := htn (ksL c r) i hlt
          refine lv_aload_n hx hb dX9_send_65 rfl (lv_at hl 0 rfl) ?_
          refine k_ga (C := RX9) (T := TX9) (N := 14) (ci := 10) (v := .ref (ad 110)) S hG (fun w h => List.mem_cons_of_mem _ (List.mem_append_left _ (List.mem_append_left _ (List.mem_append_left _ (List.mem_append_left _ (List.mem_append_left _ (List.mem_append_left _ (List.mem_append_right _ h)))))))) 100 (hlv.f (by decide) (by decide)) rfl rfl 9 (by decide) rfl (hts (.fieldLink RX9 60 "SwarmLine" "turns" "LSwarmLine$Turns;") (by decide +kernel)) rfl dX9_send_66 ?_
          refine lv_iload_n hx hb dX9_send_69 rfl (lv_at hl 3 rfl) ?_
          refine lv_iload hx hb dX9_send_70 (lv_at hl 4 rfl) ?_
          refine k_callV (n := 2) (As := [.int (ksL c r), .int x]) (rest := []) (st1 := .int (ksK (ksL c r) i r) :: []) (k := 110) (ci := 9) S hG hL (hlv.f (by decide) (by decide)) rfl rfl (c_X8_keeperAt (upd s 57 y) rv hlv2  (ksL c r) x (fun l => by rw [kSz_o hO]; exact hz12 l)) gX9_send_X8_keeperAt rfl ⟨rfl, rfl⟩ (by decide +kernel) ⟨Nat.le_of_ble_eq_true rfl, Nat.le_of_ble_eq_true rfl⟩ rfl hl.1 rfl (Nat.le_of_ble_eq_true rfl) dX9_send_72 ⟨Nat.le_of_ble_eq_true rfl, Nat.le_of_ble_eq_true rfl⟩ (by rw [ex, kKa_o hO (hz0 _) (hz12 _) hlt]; rfl) (fun H locs hG hL => ?_)
          refine lv_istore (lv' := [(5, .int (ksK (ksL c r) i r)), (0, .ref (ad 100)), (1, .int c), (2, .ref (ad (4000 + Int32.toNatClampNeg c))), (3, .int (ksL c r)), (4, .int x)]) hx hb dX9_send_75 hl (by decide) rfl (fun ls hl => ?_)
          refine lv_aload_n hx hb dX9_send_77 rfl (lv_at hl 1 rfl) ?_
          refine lv_iload hx hb dX9_send_78 (lv_at hl 0 rfl) ?_
          refine k_callV (n := 1) (As := [.int (ksK (ksL c r) i r)]) (rest := []) (st1 := .ref (ad (3000 + Int32.toNatClampNeg (ksK (ksL c r) i r))) :: []) (k := 100) (ci := 10) S hG hL (hlv.f (by decide) (by decide)) rfl rfl (c_X9_keeperNumbered_ok (upd s 57 y) rv hlv2  (ksK (ksL c r) i r) (hk.1) (hk.2) (hk9)) gX9_send_X9_keeperNumbered rfl ⟨rfl, rfl⟩ (by decide +kernel) ⟨Nat.le_of_ble_eq_true rfl, Nat.le_of_ble_eq_true rfl⟩ rfl hl.1 rfl (Nat.le_of_ble_eq_true rfl) dX9_send_80 ⟨Nat.le_of_ble_eq_true rfl, Nat.le_of_ble_eq_true rfl⟩ (rfl) (fun H locs hG hL => ?_)
          refine lv_astore (lv' := [(6, .ref (ad (3000 + Int32.toNatClampNeg (ksK (ksL c r) i r)))), (5, .int (ksK (ksL c r) i r)), (0, .ref (ad 100)), (1, .int c), (2, .ref (ad (4000 + Int32.toNatClampNeg c))), (3, .int (ksL c r)), (4, .int x)]) hx hb dX9_send_83 hl (by decide) rfl (fun ls hl => ?_)
          refine lv_aload_n hx hb dX9_send_85 rfl (lv_at hl 2 rfl) ?_
          refine lv_aload hx hb dX9_send_86 (lv_at hl 0 rfl) ?_
          refine lv_aload_n hx hb dX9_send_88 rfl (lv_at hl 4 rfl) ?_
          refine k_callV (n := 2) (As := [.ref (ad (3000 + Int32.toNatClampNeg (ksK (ksL c r) i r))), .ref (ad (4000 + Int32.toNatClampNeg c))]) (rest := []) (st1 := .int (ksG c (ksL c r) i s r) :: []) (k := 100) (ci := 10) S hG hL (hlv.f (by decide) (by decide)) rfl rfl (c_X9_whatIsAgainst (upd s 57 y) rv hlv2  (Int32.toNatClampNeg (ksK (ksL c r) i r)) (ix_lt hk.1 hk.2) (ix_le hk.1 (by omega)) (Int32.toNatClampNeg c) (xNm_lt ht2) (xNm_9 ht2 hb9) ) gX9_send_X9_whatIsAgainst rfl ⟨rfl, rfl⟩ (by decide +kernel) ⟨Nat.le_of_ble_eq_true rfl, Nat.le_of_ble_eq_true rfl⟩ rfl hl.1 rfl (Nat.le_of_ble_eq_true rfl) dX9_send_89 ⟨Nat.le_of_ble_eq_true rfl, Nat.le_of_ble_eq_true rfl⟩ (by rw [kAg_o (s := s) (s' := upd s 57 y) (r := r) rfl hO]; rfl) (fun H locs hG hL => ?_)
          refine lv_istore (lv' := [(7, .int (ksG c (ksL c r) i s r)), (6, .ref (ad (3000 + Int32.toNatClampNeg (ksK (ksL c r) i r)))), (5, .int (ksK (ksL c r) i r)), (0, .ref (ad 100)), (1, .int c), (2, .ref (ad (4000 + Int32.toNatClampNeg c))), (3, .int (ksL c r)), (4, .int x)]) hx hb dX9_send_92 hl (by decide) rfl (fun ls hl => ?_)
          refine lv_aload_n hx hb dX9_send_94 rfl (lv_at hl 3 rfl) ?_
          refine k_ga (C := RX9) (T := TX9) (N := 14) (ci := 10) (v := .ref (ad 104)) S hG (fun w h => List.mem_cons_of_mem _ (List.mem_append_left _ (List.mem_append_left _ (List.mem_append_left _ (List.mem_append_left _ (List.mem_append_left _ (List.mem_append_left _ (List.mem_append_right _ h)))))))) 100 (hlv.f (by decide) (by decide)) rfl rfl 3 (by decide) rfl (hts (.fieldLink RX9 33 "SwarmLine" "askedLast" "LSwarmLine$Asked;") (by decide +kernel)) rfl dX9_send_95 ?_
          refine lv_iload hx hb dX9_send_98 (lv_at hl 2 rfl) ?_
          refine lv_iload hx hb dX9_send_100 (lv_at hl 0 rfl) ?_
          refine k_callV (n := 2) (As := [.int (ksK (ksL c r) i r), .int (ksG c (ksL c r) i s r)]) (rest := []) (st1 := []) (k := 104) (ci := 1) S hG hL (hlv.f (by decide) (by decide)) rfl rfl (c_X0_add (upd s 57 y) rv hlv2  (ksK (ksL c r) i r) (ksG c (ksL c r) i s r) (by show 0 ≤ y.toInt; rw [hS, nI_toInt (by omega)]; omega)) gX9_send_X0_add rfl ⟨rfl, rfl⟩ (by decide +kernel) ⟨Nat.le_of_ble_eq_true rfl, Nat.le_of_ble_eq_true rfl⟩ rfl hl.1 rfl (Nat.le_of_ble_eq_true rfl) dX9_send_102 ⟨Nat.le_of_ble_eq_true rfl, Nat.le_of_ble_eq_true rfl⟩ (rfl) (fun H locs hG hL => ?_)
          rw [hS, hR, aaS_e (by omega), aaR_e (by omega)] at hG
          refine lv_iload hx hb dX9_send_105 (lv_at hl 0 rfl) ?_
          refine lv_if_ne (tgt := 138) hx hb dX9_send_107 (by decide) (fun c107 => ?_) (fun c107 => ?_)
          ·
            refine lv_iinc (v := x + 1) (lv' := [(4, .int (x + 1)), (7, .int (ksG c (ksL c r) i s r)), (6, .ref (ad (3000 + Int32.toNatClampNeg (ksK (ksL c r) i r)))), (5, .int (ksK (ksL c r) i r)), (0, .ref (ad 100)), (1, .int c), (2, .ref (ad (4000 + Int32.toNatClampNeg c))), (3, .int (ksL c r))]) hx hb dX9_send_138 hl (k := 7) rfl (by rfl) (by decide) rfl (fun ls hl => ?_)
            refine lv_goto (tgt := 52) hx hb dX9_send_141 (by decide) ?_
            exact ih  (i + 1) (x + 1) (nI (i + 1)) (ksR c (ksL c r) s r (i + 1)) (by rw [ex]; exact nI_1 i) (hlt) (by omega) (rfl) (rfl) (by rw [← hF, show (kSz (ksL c r) r).toNatClampNeg - i = ((kSz (ksL c r) r).toNatClampNeg - (i + 1)) + 1 by omega]; simp only [ksT, eq_true c10, eq_false c62, eq_false c107, if_false]) _ _ hG hL _ (lv_sub hl [4, 5, 6, 7, 0] rfl)
          ·
            have hZ : ksX c s r = (ksK (ksL c r) i r, upd s 57 (nI (i + 1)), ksA (ksK (ksL c r) i r) c (ksR c (ksL c r) s r (i + 1))) := by { rw [← hF, show (kSz (ksL c r) r).toNatClampNeg - i = ((kSz (ksL c r) r).toNatClampNeg - (i + 1)) + 1 by omega]; simp only [ksT, eq_true c107, if_true] }
            refine lv_aload hx hb dX9_send_110 (lv_at hl 1 rfl) ?_
            refine lv_iload_n hx hb dX9_send_112 rfl (lv_at hl 4 rfl) ?_
            refine lv_aload_n hx hb dX9_send_113 rfl (lv_at hl 5 rfl) ?_
            refine k_giN (C := RX1) (T := TX1) (N := 11) (ci := 2) (v := (ksR c (ksL c r) s r (i + 1)) 42 (Int32.toNatClampNeg c)) S hG (fun w h => List.mem_cons_of_mem _ (List.mem_append_left _ (List.mem_append_left _ (List.mem_append_left _ (List.mem_append_left _ (List.mem_append_left _ (List.mem_append_left _ (List.mem_append_left _ (List.mem_append_right _ h))))))))) (4000 + Int32.toNatClampNeg c) (hlv.ca (xNm_lt ht2)) (kJ_ca (xNm_9 ht2 hb9)) rfl 0 (by decide) rfl (by decide +kernel) rfl (rfl) dX9_send_114 ?_
            refine lv_aload_n hx hb dX9_send_117 rfl (lv_at hl 5 rfl) ?_
            refine k_giN (C := RX1) (T := TX1) (N := 11) (ci := 2) (v := (ksR c (ksL c r) s r (i + 1)) 43 (Int32.toNatClampNeg c)) S hG (fun w h => List.mem_cons_of_mem _ (List.mem_append_left _ (List.mem_append_left _ (List.mem_append_left _ (List.mem_append_left _ (List.mem_append_left _ (List.mem_append_left _ (List.mem_append_left _ (List.mem_append_right _ h))))))))) (4000 + Int32.toNatClampNeg c) (hlv.ca (xNm_lt ht2)) (kJ_ca (xNm_9 ht2 hb9)) rfl 1 (by decide) rfl (by decide +kernel) rfl (rfl) dX9_send_118 ?_
            refine k_callV (n := 3) (As := [.int c, .int ((ksR c (ksL c r) s r (i + 1)) 42 (Int32.toNatClampNeg c)), .int ((ksR c (ksL c r) s r (i + 1)) 43 (Int32.toNatClampNeg c))]) (rest := []) (st1 := []) (k := 3000 + Int32.toNatClampNeg (ksK (ksL c r) i r)) (ci := 5) S hG hL (hlv.kp (ix_lt hk.1 hk.2)) (kJ_kp (ix_le hk.1 (by omega))) rfl (c_X4_setOut (upd s 57 (nI (i + 1))) (ksR c (ksL c r) s r (i + 1)) (hlv.upn (by decide) (by decide) (by decide) (by decide) _) (Int32.toNatClampNeg (ksK (ksL c r) i r)) (ix_lt hk.1 hk.2) (ix_le hk.1 (by omega)) c ((ksR c (ksL c r) s r (i + 1)) 42 (Int32.toNatClampNeg c)) ((ksR c (ksL c r) s r (i + 1)) 43 (Int32.toNatClampNeg c)) (by rw [ksR_n (by decide) (by decide), ksR_n (by decide) (by decide), ksR_n (by decide) (by decide), ksR_n (by decide) (by decide)]; exact hd _ _ (ix_lt hk.1 hk.2) (xNm_lt ht2))) gX9_send_X4_setOut rfl ⟨rfl, rfl⟩ (by decide +kernel) ⟨Nat.le_of_ble_eq_true rfl, Nat.le_of_ble_eq_true rfl⟩ rfl hl.1 rfl (Nat.le_of_ble_eq_true rfl) dX9_send_121 ⟨Nat.le_of_ble_eq_true rfl, Nat.le_of_ble_eq_true rfl⟩ (rfl) (fun H locs hG hL => ?_)
            refine lv_aload_n hx hb dX9_send_124 rfl (lv_at hl 5 rfl) ?_
            refine lv_iconst (v := 1) hx hb dX9_send_125 (by decide) ?_
            refine k_piN (C := RX1) (T := TX1) (N := 11) (ci := 2) (ty := .int) S hG hL (fun w h => List.mem_cons_of_mem _ (List.mem_append_left _ (List.mem_append_left _ (List.mem_append_left _ (List.mem_append_left _ (List.mem_append_left _ (List.mem_append_left _ (List.mem_append_left _ (List.mem_append_right _ h))))))))) tyX1 tyX1_ok nmX1 (4000 + Int32.toNatClampNeg c) (hlv.ca (xNm_lt ht2)) (kJ_ca (xNm_9 ht2 hb9)) rfl 3 (by decide) rfl (by decide +kernel) rfl (by decide +kernel) rfl rfl (Nat.le_of_ble_eq_true rfl) (kw_ca_state (xNm_9 ht2 hb9) _) dX9_send_126 (fun H locs hG hL => ?_)
            refine lv_aload_n hx hb dX9_send_129 rfl (lv_at hl 5 rfl) ?_
            refine lv_iload hx hb dX9_send_130 (lv_at hl 2 rfl) ?_
            refine k_piN (C := RX1) (T := TX1) (N := 11) (ci := 2) (ty := .int) S hG hL (fun w h => List.mem_cons_of_mem _ (List.mem_append_left _ (List.mem_append_left _ (List.mem_append_left _ (List.mem_append_left _ (List.mem_append_left _ (List.mem_append_left _ (List.mem_append_left _ (List.mem_append_right _ h))))))))) tyX1 tyX1_ok nmX1 (4000 + Int32.toNatClampNeg c) (hlv.ca (xNm_lt ht2)) (kJ_ca (xNm_9 ht2 hb9)) rfl 9 (by decide) rfl (by decide +kernel) rfl (by decide +kernel) rfl rfl (Nat.le_of_ble_eq_true rfl) (kw_ca_keeper (xNm_9 ht2 hb9) _) dX9_send_132 (fun H locs hG hL => ?_)
            refine lv_iload hx hb dX9_send_135 (lv_at hl 2 rfl) ?_
            exact x_iret S.1 hr hlocks hG hL (by simp only [xSd, eq_false (xNm_n ht2), eq_true c10, if_true, if_false]) (congrArg (fun z => some (Value.int z)) (by rw [hZ])) (congr (congrArg (kJ ce0 ad K.2.2.1 cI cB cO cR) (by rw [hZ])) (by rw [hZ]; rfl)) dX9_send_137 (Nat.le_of_ble_eq_true rfl) (Nat.le_of_ble_eq_true rfl)
    exact LP ((kSz (ksL c r) r).toNatClampNeg + 1) 0 0 ((upd s 57 0) 57) r (rfl) (Nat.zero_le _) (by omega) (rfl) (rfl) (by unfold ksX; rw [Nat.sub_zero]) _ _ hG hL _ (lv_sub hl [3, 4, 2, 1, 0] rfl)
  ·
    exact k_throw (cls := "java/lang/IllegalStateException") (text := "the case is not open") (i := 22) S hst hH hG hL (by decide +kernel) (hts (.classLink RX9 117 "java/lang/IllegalStateException") (by decide +kernel)) (hts (.initialized "java/lang/IllegalStateException") (by decide +kernel)) rfl (fun w h => List.mem_cons_of_mem _ (List.mem_append_left _ (List.mem_append_right _ h))) (by decide +kernel) (by decide +kernel) (by decide +kernel) hl.1 dX9_send_13 dX9_send_16 dX9_send_17 dX9_send_19 dX9_send_22 hout (Nat.le_of_ble_eq_true rfl) (Nat.le_of_ble_eq_true rfl) (Nat.le_of_ble_eq_true rfl) (Nat.le_of_ble_eq_true rfl) hlocks (by simp only [xSd, eq_false (xNm_n ht2), eq_false c10, if_true, if_false]) (congr (congrArg (kJ ce0 ad K.2.2.1 cI cB cO cR) (by rfl)) (by rfl)) (Nat.le_of_ble_eq_true rfl) (Nat.le_of_ble_eq_true rfl)
