/-! the law from its entry -/
theorem jV_0 : ∀ f, jV f 0 := by
  intro f
  unfold jV
  split <;> first | trivial | exact ⟨by decide, by decide⟩ | exact Or.inr ⟨by decide, by decide⟩ | exact Or.inl rfl | decide
theorem rI_0 {f : Nat} (h : f < 2 ∨ 5 < f) (j : Nat) : rI 31 f j = 0 := by rw [rI_n h 31]
theorem jI_start : jI sI (rI 31) sI (rI 31) := by
  have z1 : ¬ (0 : Int32) = 1 := by decide
  refine ⟨⟨fun _ _ => rfl, fun _ _ => rfl⟩, ?_, fun f j => ?_, ⟨fun j hj => ?_, fun j h => ?_, fun j h => ?_, fun j h => ?_, fun j _ => rI_0 (Or.inr (by decide)) j⟩, ⟨by decide, by decide⟩, fun k hk => ?_, fun k q hk => ?_, fun d _ _ => rI_0 (Or.inr (by decide)) d⟩
  · unfold jN
    decide
  · by_cases h : f < 2 ∨ 5 < f
    · rw [rI_0 h]
      exact jV_0 f
    · have : f = 2 ∨ f = 3 ∨ f = 4 ∨ f = 5 := by omega
      rcases this with rfl | rfl | rfl | rfl <;> trivial
  · rw [sI_0.2.2.1] at hj
    exact absurd hj (Nat.not_lt_zero j)
  · rw [rI_0 (Or.inr (by decide))] at h
    exact absurd h z1
  · rw [rI_0 (Or.inr (by decide))] at h
    exact absurd h z1
  · rw [rI_0 (Or.inr (by decide))] at h
    exact absurd h z1
  · exact absurd hk (Nat.not_lt_zero k)
  · exact absurd hk (Nat.not_lt_zero k)
/-- the addresses at the start -/
def eAd (n k : Nat) : Nat := if k = 100 then n else if 100 < k then n + 1 + iK k else if k = 0 then n + 57 else n + 58 + mAr.idxOf (k - 1)
theorem eAd_c {n k : Nat} (h : 100 < k) : eAd n k = n + 1 + iK k := by
  unfold eAd
  rw [if_neg (by omega), if_pos h]
theorem mAr_ix : ∀ i, i < 55 → mAr.idxOf (mAr.getD i 0 + 1 - 1) = i ∧ mAr.getD i 0 < 69 := by decide
theorem eAd_m {n i : Nat} (h : i < 55) : eAd n (mAr.getD i 0 + 1) = n + 58 + i := by
  have a := mAr_ix i h
  unfold eAd
  rw [if_neg (by omega), if_neg (by omega), if_neg (by omega), a.1]
theorem en_fs {ad : Nat → Nat} : ∀ j, j < 69 → defaultValue (tyX10 j) = vp_V (mT 0 ad (fun _ => 0)) j
  | 0, _ => rfl
  | 1, _ => rfl
  | 2, _ => rfl
  | 3, _ => rfl
  | 4, _ => rfl
  | 5, _ => rfl
  | 6, _ => rfl
  | 7, _ => rfl
  | 8, _ => rfl
  | 9, _ => rfl
  | 10, _ => rfl
  | 11, _ => rfl
  | 12, _ => rfl
  | 13, _ => rfl
  | 14, _ => rfl
  | 15, _ => rfl
  | 16, _ => rfl
  | 17, _ => rfl
  | 18, _ => rfl
  | 19, _ => rfl
  | 20, _ => rfl
  | 21, _ => rfl
  | 22, _ => rfl
  | 23, _ => rfl
  | 24, _ => rfl
  | 25, _ => rfl
  | 26, _ => rfl
  | 27, _ => rfl
  | 28, _ => rfl
  | 29, _ => rfl
  | 30, _ => rfl
  | 31, _ => rfl
  | 32, _ => rfl
  | 33, _ => rfl
  | 34, _ => rfl
  | 35, _ => rfl
  | 36, _ => rfl
  | 37, _ => rfl
  | 38, _ => rfl
  | 39, _ => rfl
  | 40, _ => rfl
  | 41, _ => rfl
  | 42, _ => rfl
  | 43, _ => rfl
  | 44, _ => rfl
  | 45, _ => rfl
  | 46, _ => rfl
  | 47, _ => rfl
  | 48, _ => rfl
  | 49, _ => rfl
  | 50, _ => rfl
  | 51, _ => rfl
  | 52, _ => rfl
  | 53, _ => rfl
  | 54, _ => rfl
  | 55, _ => rfl
  | 56, _ => rfl
  | 57, _ => rfl
  | 58, _ => rfl
  | 59, _ => rfl
  | 60, _ => rfl
  | 61, _ => rfl
  | 62, _ => rfl
  | 63, _ => rfl
  | 64, _ => rfl
  | 65, _ => rfl
  | 66, _ => rfl
  | 67, _ => rfl
  | 68, _ => rfl
  | n + 69, h => absurd h (by omega)
theorem lv_kc {j : Nat} (h : lvC (fun _ => False) sI j) : 100 ≤ j ∧ kLv (sI 6).toNatClampNeg (sI 14).toNatClampNeg (sI 26).toNatClampNeg (sI 39).toNatClampNeg j ∧ j < 200 := by
  rcases h with ⟨-, h⟩ | h
  · exact absurd h id
  · have a := sI_0
    have h' := h
    unfold kLv at h'
    rw [a.1, a.2.1, a.2.2.1, a.2.2.2] at h'
    exact ⟨by omega, h, by omega⟩
theorem gM.blind {D : va_G} {tys : List (ClassId × FieldType)} {Hb : Heap} {lv : Nat → Prop} {ad : Nat → Nat} {ce : Nat → va_E} {n : Nat} {av : List Value} : FrameBlind (va_Pc av (fun U => U.heap.size = n ∧ gP D tys Hb lv ad ce U)) := fun a U g mk q => by
  obtain ⟨q0, q1, q2⟩ := q
  exact ⟨q0, q1, (gP.blind (av := av) a U g mk ⟨q0, q2⟩).2⟩
theorem kJ_hi {ce0 ce1 : Nat → va_E} {ad : Nat → Nat} {eA : Nat} {cI cB cO cR : ClassId} {s : Nat → Int32} {r : Nat → Nat → Int32} {k : Nat} (h : ¬ k < 100) (h2 : k < 200) : kJ ce0 ad eA cI cB cO cR s r k = kJ ce1 ad eA cI cB cO cR s r k := by
  unfold kJ
  rw [if_neg h, if_neg h]
  by_cases a : k < 130
  · rw [if_pos a, if_pos a]
  · rw [if_neg a, if_neg a, if_pos h2, if_pos h2]
/-- the world when all is made -/
theorem en_w {D : va_G} {Hb : Heap} {cI cZ cB cO cR cJ : ClassId} {ad : Nat → Nat} {ce1 o : Nat → va_E} {eZ : Nat} {f : Nat → Int64} {H : Heap} {a9 : Nat}
    (hG : gW D Hb (fun j => lvI (lvC (fun _ => False) sI) 55 j ∨ j = 99) (va_up ad 99 a9) (va_up (mJ (kJ ce1 ad eZ cI cB cO cR sI (rI 31)) ad cI cZ sI (rI 31)) 99 (lE cJ f)) H) : gW D Hb (lvC lL0 sI) (va_up ad 99 a9) (lW o (va_up ad 99 a9) eZ cI cZ cB cO cR cJ f sI (rI 31) sI (rI 31)) H := by
  have hn : ∀ k, ¬ k = 99 → va_up ad 99 a9 k = ad k := fun k hk => va_up_ne _ _ hk
  refine hG.re (fun k hk => ?_) (fun _ _ => rfl) (fun k hk => ?_)
  · rcases hk with ⟨-, h | h⟩ | h
    · exact Or.inl (lvI_M k h)
    · exact Or.inr h
    · exact Or.inl (Or.inl (Or.inr h))
  · rcases hk with ⟨h9, h | h⟩ | h
    · have k7 := mKey_lt h
      rw [va_up_ne _ _ (by omega), lW_m, mJ_ad (ad := ad) (fun j hj => hn j (by have := mKey_lt hj; omega))]
      unfold mJ
      rw [if_pos k7, if_pos k7]
    · subst h
      rw [va_up_self]
      exact lW_out'
    · have hk := (lv_kc (Or.inr h)).1
      have hne : ¬ k = 99 := by omega
      have e : lW o (va_up ad 99 a9) eZ cI cZ cB cO cR cJ f sI (rI 31) sI (rI 31) k = kJ (mJ (va_up o 99 (lE cJ f)) (va_up ad 99 a9) cI cZ sI (rI 31)) ad eZ cI cB cO cR sI (rI 31) k := by
        unfold lW
        rw [kJ_ad (ad := ad) (fun j hj => hn j (by have := (lv_kc (Or.inr hj)).1; omega))]
      rw [e, va_up_ne _ _ hne, mJ_lo (by omega)]
      exact kJ_hi (by omega) (lv_kc (Or.inr h)).2.2
set_option maxHeartbeats 4000000 in
/-- THE LAW, from its entry -/
theorem whole_start {p : Program} {e : Env} {s : State} {m : MethodId} {below : List Frame} {meth : Method} {c : Code} (l : Launch) (hst : l.stackTraces = false) {b L : Nat} {xs : Nat → Int32} (hL : L ≤ 4096) (C0 : lw_At p s m meth c b L xs) : W p l e room_1 s m #[Value.ref b] below meth c s.heap [] 0 0 (lw_Z below #[Value.ref b] s) (entryFrame m ([Value.ref b] : List Value).toArray 7) := by
  obtain ⟨hx, hb, hr, hml, hown, hts, hX, hbl, hlocks, hgv⟩ := C0
  have hb : c.code = cL_law := hb
  have hown : s.vm.findClass RL = some m.cls := hown
  have hfl : ∀ w ∈ en_fl, w.before #[Value.ref b] s = true := flat_of_before _ hgv
  have h1 : ∀ w ∈ en_one, w.before #[Value.ref b] s = true := fun w h => hts w (en_ones w h)
  obtain ⟨D, cI, cZ, cB, cO, cR, cJ, hK⟩ := en_K hts
  obtain ⟨K, hE⟩ := en_E hts hfl
  have hN := en_N hfl
  have hOA : va_AOA .int s := va_AOA.of (A := #[Value.ref b]) (h1 _ (by decide +kernel))
  have S0 : CallFix p m c cL_law 7 s #[Value.ref b] lw_tbl RL := ⟨hx, hb, hml, hown, hts⟩
  have S : kX p m c cL_law 7 s #[Value.ref b] wsL_law RL D (tyL cI cZ cB cO cR cJ) s.heap K := ⟨⟨hx, hb, hml, hown, fun w hw => hts w (wsL_law_in w hw)⟩, hK, hE⟩
  have C : lC p m c s b L xs D cI cZ cB cO cR cJ K := ⟨S, hN, hX, hbl, hL⟩
  obtain ⟨ad, had⟩ : ∃ ad : Nat → Nat, ad = eAd s.heap.size := ⟨_, rfl⟩
  have a100 : ad 100 = s.heap.size := by rw [had]; rfl
  have a0 : ad 0 = s.heap.size + 57 := by rw [had]; rfl
  have aC : ∀ k, 100 < k → ad k = s.heap.size + 1 + iK k := fun k h => by rw [had]; exact eAd_c h
  have aM : ∀ i, i < 55 → ad (mAr.getD i 0 + 1) = s.heap.size + 58 + i := fun i h => by rw [had]; exact eAd_m h
  clear had
  obtain ⟨o, -⟩ : ∃ o : Nat → va_E, o = fun _ => .inl (cI, 0, .inl (fun _ => 0)) := ⟨_, rfl⟩
  have hG : gW D s.heap (fun _ => False) ad o s.heap := ⟨fun _ h => absurd h id, fun _ _ h => absurd h id, fun _ h => absurd h id, Nat.le_refl _, fun _ _ => rfl⟩
  have hl := lv_entry ([.ref b]) (n := 7) (Nat.le_of_ble_eq_true rfl)
  rw [lg_entry_eq]
  generalize (lg_sl ([.ref b]) ++ List.replicate (7 - (lg_sl ([.ref b])).length) Slot.unset).toArray = ls at hl ⊢
  have hl : lv_has ls 7 [(0, .ref b)] := hl
  refine g_new (C := RX9) (T := TX9) (N := 14) (ci := 10) (fs := [.null, .null, .null, .null, .null, .null, .null, .null, .null, .null, .null, .int 0, .int 0, .int 0]) S0 hK hG en_u10 tyX9 tyX9_ok (h1 (.classLink RL 8 RX9) (by decide +kernel)) (h1 (.instantiable RX9 14) (by decide +kernel)) (h1 (.initialized RX9) (by decide +kernel)) rfl 100 id a100 (fun j hj => by match j, hj with
    | 0, _ => rfl
    | 1, _ => rfl
    | 2, _ => rfl
    | 3, _ => rfl
    | 4, _ => rfl
    | 5, _ => rfl
    | 6, _ => rfl
    | 7, _ => rfl
    | 8, _ => rfl
    | 9, _ => rfl
    | 10, _ => rfl
    | 11, _ => rfl
    | 12, _ => rfl
    | 13, _ => rfl
    | n + 14, h => exact absurd h (by omega)) (Nat.le_of_ble_eq_true rfl) (Nat.le_of_ble_eq_true rfl) dL_law_0 (fun H hG hz => ?_)
  have hG := hG.less (lv' := lvA (fun _ => False)) (fun k h => h.elim (fun q => absurd q.2 id) Or.inr)
  refine lv_dup hx hb dL_law_3 rfl ?_
  refine z_callI (n := 0) (As := []) (rest := [.ref (ad 100)]) (k := 100) S hOA hG gL.nil hz (c_X9_init (s.heap.size + 1) aC rfl) (cwI 0 S.1.2.2.2.2 gL_law_X9_init rfl rfl rfl (h1 (.initialized RX9) (by decide +kernel)) (h1 (.methodLink RL 71 yX9_init) (by decide +kernel)) (h1 (.instanceMethod yX9_init) (by decide +kernel)) rfl (by decide +kernel) ⟨(Nat.le_of_ble_eq_true rfl), (Nat.le_of_ble_eq_true rfl)⟩) rfl hl.1 rfl (Nat.le_of_ble_eq_true rfl) dL_law_4 ⟨(Nat.le_of_ble_eq_true rfl), (Nat.le_of_ble_eq_true rfl)⟩ (fun H locs hG hL hz => ?_)
  refine lv_astore_n (lv' := [(1, .ref (ad 100)), (0, .ref b)]) hx hb dL_law_7 rfl hl (by decide) rfl (fun ls hl => ?_)
  generalize hc1 : kJ (va_up o 100 (.inr (10, [.null, .null, .null, .null, .null, .null, .null, .null, .null, .null, .null, .int 0, .int 0, .int 0]))) ad K.2.2.1 cI cB cO cR sI (rI 31) = ce1 at hG
  refine g_new (C := RX10) (T := TX10) (N := 69) (ci := 11) (fs := mT 0 ad (fun _ => 0)) S0 hK hG en_u11 tyX10 tyX10_ok (h1 (.classLink RL 72 RX10) (by decide +kernel)) (h1 (.instantiable RX10 69) (by decide +kernel)) (h1 (.initialized RX10) (by decide +kernel)) rfl 0 (fun h => absurd (lv_kc h).1 (by decide)) (by rw [hz, a0]) en_fs (Nat.le_of_ble_eq_true rfl) (Nat.le_of_ble_eq_true rfl) dL_law_8 (fun H hG hz2 => ?_)
  have hz : H.size = s.heap.size + 58 := by rw [hz2, hz]
  have hG : gW D s.heap (lvI (lvC (fun _ => False) sI) 0) ad (ceI ce1 ad cI cZ (fun _ => 0) 0) H := hG.re (fun k h => by
    rcases h with h | h | ⟨i, h, -⟩
    · exact Or.inl h
    · exact Or.inr h
    · exact absurd h (Nat.not_lt_zero i)) (fun _ _ => rfl) (fun k h => by
    rcases h with h | h | ⟨i, h, -⟩
    · have hk := (lv_kc h).1
      unfold ceI
      rw [va_up_ne _ _ (by omega), va_up_ne _ _ (by omega), mJ_lo (by omega)]
    · subst h
      rw [ceI_0, va_up_self]
    · exact absurd h (Nat.not_lt_zero i))
  refine lv_dup hx hb dL_law_11 rfl ?_
  refine g_back (lv := lvI (lvC (fun _ => False) sI) 55) (rv := none) (rest := [.ref (ad 0)]) (va_runI (b := ad 0) (As := []) S.1 (c_X10_init (l := l) (D := D) (cI := cI) (cZ := cZ) (cB := cB) (cO := cO) (cR := cR) (cJ := cJ) (Hb := s.heap) (lv0 := lvC (fun _ => False) sI) (ad := ad) (ce0 := ce1) (fun k h => Nat.le_trans (by decide) (lv_kc h).1) (s.heap.size + 58) aM) (cwI 0 S.1.2.2.2.2 gL_law_X10_init rfl rfl rfl (h1 (.initialized RX10) (by decide +kernel)) (h1 (.methodLink RL 74 yX10_init) (by decide +kernel)) (h1 (.instanceMethod yX10_init) (by decide +kernel)) rfl (by decide +kernel) ⟨(Nat.le_of_ble_eq_true rfl), (Nat.le_of_ble_eq_true rfl)⟩) ⟨gM.blind, fun U hU hW => ⟨rfl, by rw [hU]; exact hz, by rw [hU]; exact hG, va_K.moved hW.alike hK⟩⟩ rfl rfl hl.1 rfl (by show 2 * 0 + _ ≤ 8; exact Nat.le_of_ble_eq_true rfl) dL_law_12 ⟨(Nat.le_of_ble_eq_true rfl), (Nat.le_of_ble_eq_true rfl)⟩) hL (fun H locs hG hL => ?_)
  refine lv_astore_n (lv' := [(2, .ref (ad 0)), (1, .ref (ad 100)), (0, .ref b)]) hx hb dL_law_15 rfl hl (by decide) rfl (fun ls hl => ?_)
  refine lv_iconst (v := 1) hx hb dL_law_16 (by decide) ?_
  have n9 : ¬ lvI (lvC (fun _ => False) sI) 55 99 := by
    rintro (h | h | ⟨i, h, h2⟩)
    · exact absurd (lv_kc h).1 (by decide)
    · exact absurd h (by decide)
    · have := (mAr_ix i h).2
      omega
  have hG : gW D s.heap (lvI (lvC (fun _ => False) sI) 55) (va_up ad 99 H.size) (mJ ce1 ad cI cZ sI (rI 31)) H := hG.re (fun _ h => h) (fun k h => va_up_ne _ _ (fun q => n9 (q ▸ h))) (fun _ _ => rfl)
  refine g_newa (atype := .long) (cA := cJ) (N' := 1) (a0 := (1, .inr (.inl (fun _ => 0)))) S0 hK hG (h1 (.arrayClass .long) (by decide +kernel)) 5 rfl 99 n9 (va_up_self _ _ _) (fun cA => vp_cell_l _ _ _) (by decide) (by decide) (Nat.le_of_ble_eq_true rfl) (Nat.le_of_ble_eq_true rfl) (Nat.le_of_ble_eq_true rfl) dL_law_17 (fun H2 hG hz3 => ?_)
  subst hc1
  have hG := en_w (o := o) hG
  refine lv_astore_n (lv' := [(3, .ref (va_up ad 99 H.size 99)), (2, .ref (ad 0)), (1, .ref (ad 100)), (0, .ref b)]) hx hb dL_law_19 rfl hl (by decide) rfl (fun ls hl => ?_)
  refine lv_iconst (v := 0) hx hb dL_law_20 (by decide) ?_
  refine lv_istore (lv' := [(4, .int 0), (3, .ref (va_up ad 99 H.size 99)), (2, .ref (ad 0)), (1, .ref (ad 100)), (0, .ref b)]) hx hb dL_law_21 hl (by decide) rfl (fun ls hl => ?_)
  refine W.widen (k := 200) (n := 9000) (Nat.le_of_ble_eq_true rfl) (Nat.le_of_ble_eq_true rfl) ?_
  exact law_loop hst C hr hlocks 512 0 200 9000 (by omega) (by decide) (by decide) (by decide) (va_up ad 99 H.size) _ _ _ _ _ H2 locs ls (va_up_ne _ _ (by decide)).symm (va_up_ne _ _ (by decide)).symm rfl hG hL jI_start (by rw [nI_0]; exact lv_sub hl [4, 3, 2, 1, 0] rfl)
