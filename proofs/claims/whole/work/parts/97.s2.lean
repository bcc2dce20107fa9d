/-! the law's loop -/
section LR5
variable {p : Program} {l : Launch} {e : Env} {s : State} {m : MethodId} {below : List Frame} {meth : Method} {c : Code}
variable {cI cZ cB cO cR cJ : ClassId} {D : va_G} {K : kTx} {o : Nat → va_E} {b L : Nat} {xs : Nat → Int32}
set_option maxHeartbeats 4000000 in
/-- the loop's head: out with 1, or on -/
theorem law_head (hst : l.stackTraces = false) (C : lC p m c s b L xs D cI cZ cB cO cR cJ K) (hr : meth.sig.returnType = ret) (hlocks : meth.locks = false) {cells slots i a1 a2 a3 : Nat} {H : Heap} {locs : List Loc} {ls : Array Slot} {lv : Nat → Prop} {ad : Nat → Nat} {ce : Nat → va_E} (hi : i ≤ 5000) (hcs : cells ≤ 601024 ∧ slots ≤ 7293034) (hG : gW D s.heap lv ad ce H) (hL : gL s.heap locs) (hl : lv_has ls 7 [(0, .ref b), (1, .ref a1), (2, .ref a2), (3, .ref a3), (4, .int (nI i))])
    (kk : i + 8 ≤ L → W p l e room_1 s m #[.ref b] below meth c H locs cells slots (lw_Z below #[.ref b] s) (F0 m 33 ls [])) : W p l e room_1 s m #[.ref b] below meth c H locs cells slots (lw_Z below #[.ref b] s) (F0 m 23 ls []) := by
  have hx := C.1.1.1
  have hb := C.1.1.2.1
  have hL4 := C.2.2.2.2
  have e8 : (nI L - 8).toInt = (L : Int) - 8 := by
    have a := nI_toInt (n := L) (by omega)
    have z : (8 : Int32).toInt = 8 := by decide
    rw [t_sub (by omega) (by omega), a, z]
  refine lv_iload hx hb dL_law_23 (lv_at hl 4 rfl) ?_
  refine lv_aload_n hx hb dL_law_25 rfl (lv_at hl 0 rfl) ?_
  refine l_slen hx hb C.2.2.1 C.2.2.2.1 hG dL_law_26 ?_
  refine lv_bipush (v := 8) hx hb dL_law_27 (by decide) ?_
  refine lv_isub hx hb dL_law_29 ?_
  refine lv_icmp_gt (tgt := 1368) hx hb dL_law_30 (by decide) (fun z => ?_) (fun z => kk ?_)
  · refine lv_iconst (v := 1) hx hb dL_law_1368 (by decide) ?_
    refine va_forget (fun q hq => hL q hq) ?_
    refine W.widen (k := 601024) (n := 7293034) hcs.1 hcs.2 ?_
    exact lw_ret hx hb hr hlocks dL_law_1369
  · rw [Int32.lt_iff_toInt_lt, e8, nI_toInt (by omega)] at z
    omega
set_option maxHeartbeats 4000000 in
set_option maxRecDepth 20000 in
/-- one line of the script -/
theorem law_body {ad : Nat → Nat} {f : Nat → Int64} {sM sC : Nat → Int32} {rM rC : Nat → Nat → Int32} {cells slots : Nat} {H : Heap} {locs : List Loc} {ls : Array Slot} {Q : State → Prop} (hst : l.stackTraces = false) (C : lC p m c s b L xs D cI cZ cB cO cR cJ K) (hG : gW D s.heap (lvC lL0 sC) ad (lW o ad K.2.2.1 cI cZ cB cO cR cJ f sM rM sC rC) H) (hL : gL s.heap locs) (J : jI sC rC sM rM) {a1 a2 a3 i : Nat} (h1 : a1 = ad 100) (h2 : a2 = ad 0) (h3 : a3 = ad 99) (hi : i + 8 ≤ L) (hl : lv_has ls 7 [(0, .ref b), (1, .ref a1), (2, .ref a2), (3, .ref a3), (4, .int (nI i))]) (hcs : cells + 120 ≤ 601024 ∧ slots + 5040 ≤ 7293034)
    (kk : ∀ (ad' : Nat → Nat) (f' : Nat → Int64) (sC' : Nat → Int32) (rC' : Nat → Nat → Int32) (sM' : Nat → Int32) (rM' : Nat → Nat → Int32) (H1 : Heap) (locs1 : List Loc) (ls1 : Array Slot), (∀ j, lvA lL0 j → ad' j = ad j) → gW D s.heap (lvC lL0 sC') ad' (lW o ad' K.2.2.1 cI cZ cB cO cR cJ f' sM' rM' sC' rC') H1 → gL s.heap locs1 → jI sC' rC' sM' rM' → lv_has ls1 7 [(0, .ref b), (1, .ref a1), (2, .ref a2), (3, .ref a3), (4, .int (nI i))] → W p l e room_1 s m #[.ref b] below meth c H1 locs1 (cells + 120) (slots + 5040) Q (F0 m 1362 ls1 [])) : W p l e room_1 s m #[.ref b] below meth c H locs cells slots Q (F0 m 33 ls []) := by
  have hx := C.1.1.1
  have hb := C.1.1.2.1
  have hL4 := C.2.2.2.2
  refine lv_aload_n hx hb dL_law_33 rfl (lv_at hl 0 rfl) ?_
  refine lv_iload hx hb dL_law_34 (lv_at hl 4 rfl) ?_
  refine l_sld hx hb C.2.2.1 C.2.2.2.1 hG (vp_in_nI (n := i) (by omega) (by omega)) rfl dL_law_36 ?_
  refine lv_bipush (v := 31) hx hb dL_law_37 (by decide) ?_
  refine lv_iand hx hb dL_law_39 ?_
  refine lv_topi (fun y _ => ?_)
  by_cases csw : y.toInt < 0 ∨ 20 < y.toInt
  · refine lv_tableOut (tgt := 1362) hx hb dL_law_40 csw (by decide) ?_
    exact W.widen (k := cells + 120) (n := slots + 5040) (by omega) (by omega) (kk ad f sC rC sM rM H locs ls (fun _ _ => rfl) hG hL J hl)
  · have csx : y = 0 ∨ y = 1 ∨ y = 2 ∨ y = 3 ∨ y = 4 ∨ y = 5 ∨ y = 6 ∨ y = 7 ∨ y = 8 ∨ y = 9 ∨ y = 10 ∨ y = 11 ∨ y = 12 ∨ y = 13 ∨ y = 14 ∨ y = 15 ∨ y = 16 ∨ y = 17 ∨ y = 18 ∨ y = 19 ∨ y = 20 := by simp only [t_eq]; simp; omega
    rcases csx with csx | csx | csx | csx | csx | csx | csx | csx | csx | csx | csx | csx | csx | csx | csx | csx | csx | csx | csx | csx | csx
    · exact lv_tableIn (tgt := 140) (off := 100) hx hb dL_law_40 (by rw [csx]; decide) (by rw [csx]; decide) (by rw [csx]; rfl) (by decide) (lb_feed hst C hG hL J h1 h2 h3 hi hl hcs kk)
    · exact lv_tableIn (tgt := 213) (off := 173) hx hb dL_law_40 (by rw [csx]; decide) (by rw [csx]; decide) (by rw [csx]; rfl) (by decide) (lb_end hst C hG hL J h1 h2 h3 hi hl hcs kk)
    · exact lv_tableIn (tgt := 238) (off := 198) hx hb dL_law_40 (by rw [csx]; decide) (by rw [csx]; decide) (by rw [csx]; rfl) (by decide) (lb_weather hst C hG hL J h1 h2 h3 hi hl hcs kk)
    · exact lv_tableIn (tgt := 298) (off := 258) hx hb dL_law_40 (by rw [csx]; decide) (by rw [csx]; decide) (by rw [csx]; rfl) (by decide) (lb_foretell hst C hG hL J h1 h2 h3 hi hl hcs kk)
    · exact lv_tableIn (tgt := 358) (off := 318) hx hb dL_law_40 (by rw [csx]; decide) (by rw [csx]; decide) (by rw [csx]; rfl) (by decide) (lb_hive hst C hG hL J h1 h2 h3 hi hl hcs kk)
    · exact lv_tableIn (tgt := 462) (off := 422) hx hb dL_law_40 (by rw [csx]; decide) (by rw [csx]; decide) (by rw [csx]; rfl) (by decide) (lb_keeper hst C hG hL J h1 h2 h3 hi hl hcs kk)
    · exact lv_tableIn (tgt := 594) (off := 554) hx hb dL_law_40 (by rw [csx]; decide) (by rw [csx]; decide) (by rw [csx]; rfl) (by decide) (lb_boxes hst C hG hL J h1 h2 h3 hi hl hcs kk)
    · exact lv_tableIn (tgt := 662) (off := 622) hx hb dL_law_40 (by rw [csx]; decide) (by rw [csx]; decide) (by rw [csx]; rfl) (by decide) (lb_hours hst C hG hL J h1 h2 h3 hi hl hcs kk)
    · exact lv_tableIn (tgt := 718) (off := 678) hx hb dL_law_40 (by rw [csx]; decide) (by rw [csx]; decide) (by rw [csx]; rfl) (by decide) (lb_call hst C hG hL J h1 h2 h3 hi hl hcs kk)
    · exact lv_tableIn (tgt := 762) (off := 722) hx hb dL_law_40 (by rw [csx]; decide) (by rw [csx]; decide) (by rw [csx]; rfl) (by decide) (lb_rota hst C hG hL J h1 h2 h3 hi hl hcs kk)
    · exact lv_tableIn (tgt := 806) (off := 766) hx hb dL_law_40 (by rw [csx]; decide) (by rw [csx]; decide) (by rw [csx]; rfl) (by decide) (lb_fault hst C hG hL J h1 h2 h3 hi hl hcs kk)
    · exact lv_tableIn (tgt := 819) (off := 779) hx hb dL_law_40 (by rw [csx]; decide) (by rw [csx]; decide) (by rw [csx]; rfl) (by decide) (lb_send hst C hG hL J h1 h2 h3 hi hl hcs kk)
    · exact lv_tableIn (tgt := 875) (off := 835) hx hb dL_law_40 (by rw [csx]; decide) (by rw [csx]; decide) (by rw [csx]; rfl) (by decide) (lb_asked hst C hG hL J h1 h2 h3 hi hl hcs kk)
    · exact lv_tableIn (tgt := 912) (off := 872) hx hb dL_law_40 (by rw [csx]; decide) (by rw [csx]; decide) (by rw [csx]; rfl) (by decide) (lb_left hst C hG hL J h1 h2 h3 hi hl hcs kk)
    · exact lv_tableIn (tgt := 996) (off := 956) hx hb dL_law_40 (by rw [csx]; decide) (by rw [csx]; decide) (by rw [csx]; rfl) (by decide) (lb_most hst C hG hL J h1 h2 h3 hi hl hcs kk)
    · exact lv_tableIn (tgt := 1009) (off := 969) hx hb dL_law_40 (by rw [csx]; decide) (by rw [csx]; decide) (by rw [csx]; rfl) (by decide) (lb_origin hst C hG hL J h1 h2 h3 hi hl hcs kk)
    · exact lv_tableIn (tgt := 1065) (off := 1025) hx hb dL_law_40 (by rw [csx]; decide) (by rw [csx]; decide) (by rw [csx]; rfl) (by decide) (lb_look hst C hG hL J h1 h2 h3 hi hl hcs kk)
    · exact lv_tableIn (tgt := 1133) (off := 1093) hx hb dL_law_40 (by rw [csx]; decide) (by rw [csx]; decide) (by rw [csx]; rfl) (by decide) (lb_swarm hst C hG hL J h1 h2 h3 hi hl hcs kk)
    · exact lv_tableIn (tgt := 1201) (off := 1161) hx hb dL_law_40 (by rw [csx]; decide) (by rw [csx]; decide) (by rw [csx]; rfl) (by decide) (lb_crew hst C hG hL J h1 h2 h3 hi hl hcs kk)
    · exact lv_tableIn (tgt := 1269) (off := 1229) hx hb dL_law_40 (by rw [csx]; decide) (by rw [csx]; decide) (by rw [csx]; rfl) (by decide) (lb_matter hst C hG hL J h1 h2 h3 hi hl hcs kk)
    · exact lv_tableIn (tgt := 1337) (off := 1297) hx hb dL_law_40 (by rw [csx]; decide) (by rw [csx]; decide) (by rw [csx]; rfl) (by decide) (lb_count hst C hG hL J h1 h2 h3 hi hl hcs kk)
set_option maxHeartbeats 4000000 in
set_option maxRecDepth 20000 in
theorem law_loop (hst : l.stackTraces = false) (C : lC p m c s b L xs D cI cZ cB cO cR cJ K) (hr : meth.sig.returnType = ret) (hlocks : meth.locks = false) {a1 a2 a3 : Nat} : ∀ (n i cells slots : Nat), L < i + 8 * n + 8 → i ≤ 5000 → cells + 120 * n ≤ 601024 → slots + 5040 * n ≤ 7293034 → ∀ (ad : Nat → Nat) (f : Nat → Int64) (sC : Nat → Int32) (rC : Nat → Nat → Int32) (sM : Nat → Int32) (rM : Nat → Nat → Int32) (H : Heap) (locs : List Loc) (ls : Array Slot), a1 = ad 100 → a2 = ad 0 → a3 = ad 99 → gW D s.heap (lvC lL0 sC) ad (lW o ad K.2.2.1 cI cZ cB cO cR cJ f sM rM sC rC) H → gL s.heap locs → jI sC rC sM rM → lv_has ls 7 [(0, .ref b), (1, .ref a1), (2, .ref a2), (3, .ref a3), (4, .int (nI i))] → W p l e room_1 s m #[.ref b] below meth c H locs cells slots (lw_Z below #[.ref b] s) (F0 m 23 ls []) := by
  have hx := C.1.1.1
  have hb := C.1.1.2.1
  have hL4 := C.2.2.2.2
  intro n
  induction n with
  | zero =>
    intro i cells slots hn hi hc hs ad f sC rC sM rM H locs ls h1 h2 h3 hG hL J hl
    exact law_head hst C hr hlocks hi ⟨by omega, by omega⟩ hG hL hl (fun z => absurd z (by omega))
  | succ n ih =>
    intro i cells slots hn hi hc hs ad f sC rC sM rM H locs ls h1 h2 h3 hG hL J hl
    refine law_head hst C hr hlocks hi ⟨by omega, by omega⟩ hG hL hl (fun z => ?_)
    refine law_body hst C hG hL J h1 h2 h3 z hl ⟨by omega, by omega⟩ (fun ad' f' sC' rC' sM' rM' H1 locs1 ls1 ha hG1 hL1 J1 hl1 => ?_)
    refine lv_iinc (v := nI (i + 8)) (lv' := [(4, .int (nI (i + 8))), (0, .ref b), (1, .ref a1), (2, .ref a2), (3, .ref a3)]) hx hb dL_law_1362 hl1 (k := 4) rfl (nI_add i 8) (by decide) rfl (fun ls2 hl2 => ?_)
    refine lv_goto (tgt := 23) hx hb dL_law_1365 (by decide) ?_
    exact ih (i + 8) (cells + 120) (slots + 5040) (by omega) (by omega) (by omega) (by omega) ad' f' sC' rC' sM' rM' H1 locs1 ls2 (h1.trans (ha 100 (Or.inr rfl)).symm) (h2.trans (ha 0 (Or.inl ⟨by decide, Or.inl rfl⟩)).symm) (h3.trans (ha 99 (Or.inl ⟨by decide, lL0_99⟩)).symm) hG1 hL1 J1 (lv_sub hl2 [1, 2, 3, 4, 0] rfl)
end LR5
