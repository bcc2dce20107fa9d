/-! the law: its cases -/
theorem kFs_lv {l0 : Nat → Prop} {s : Nat → Int32} : lvC l0 (kFs s) = lvC l0 s := by
  have e : ∀ g, g < 60 → kFs s g = s g := by
    intro g hg
    have a : ∀ s : Nat → Int32, apS s g = s g := fun s => by
      show (if g = 61 then _ else s g) = s g
      exact if_neg (by omega)
    unfold kFs
    split
    · rfl
    · rw [a, a, a, a, a]
  exact lvC_q (e 6 (by decide)) (e 14 (by decide)) (e 26 (by decide)) (e 39 (by decide))
theorem sCt_lv {l0 : Nat → Prop} {n : Int32} {s : Nat → Int32} : lvC l0 (sCt n s) = lvC l0 s := by
  unfold sCt
  split
  · rfl
  · split
    · exact lvC_q rfl rfl rfl rfl
    · rfl
section LR4
variable {p : Program} {l : Launch} {e : Env} {s : State} {m : MethodId} {below : List Frame} {meth : Method} {c : Code} {H : Heap} {locs : List Loc} {cells slots : Nat} {Q : State → Prop}
variable {cI cZ cB cO cR cJ : ClassId} {ls : Array Slot} {D : va_G} {K : kTx} {ad : Nat → Nat} {o : Nat → va_E} {f : Nat → Int64} {sM sC : Nat → Int32} {rM rC : Nat → Nat → Int32} {b L : Nat} {xs : Nat → Int32}
set_option maxHeartbeats 4000000 in
theorem lb_feed (hst : l.stackTraces = false) (C : lC p m c s b L xs D cI cZ cB cO cR cJ K) (hG : gW D s.heap (lvC lL0 sC) ad (lW o ad K.2.2.1 cI cZ cB cO cR cJ f sM rM sC rC) H) (hL : gL s.heap locs) (J : jI sC rC sM rM) {a1 a2 a3 i : Nat} (h1 : a1 = ad 100) (h2 : a2 = ad 0) (h3 : a3 = ad 99) (hi : i + 8 ≤ L) (hl : lv_has ls 7 [(0, .ref b), (1, .ref a1), (2, .ref a2), (3, .ref a3), (4, .int (nI i))]) (hcs : cells + 120 ≤ 601024 ∧ slots + 5040 ≤ 7293034)
    (kk : ∀ (ad' : Nat → Nat) (f' : Nat → Int64) (sC' : Nat → Int32) (rC' : Nat → Nat → Int32) (sM' : Nat → Int32) (rM' : Nat → Nat → Int32) (H1 : Heap) (locs1 : List Loc) (ls1 : Array Slot), (∀ j, lvA lL0 j → ad' j = ad j) → gW D s.heap (lvC lL0 sC') ad' (lW o ad' K.2.2.1 cI cZ cB cO cR cJ f' sM' rM' sC' rC') H1 → gL s.heap locs1 → jI sC' rC' sM' rM' → lv_has ls1 7 [(0, .ref b), (1, .ref a1), (2, .ref a2), (3, .ref a3), (4, .int (nI i))] → W p l e room_1 s m #[.ref b] below meth c H1 locs1 (cells + 120) (slots + 5040) Q (F0 m 1362 ls1 [])) : W p l e room_1 s m #[.ref b] below meth c H locs cells slots Q (F0 m 140 ls []) := by
  subst h1 h2 h3
  have hx := C.1.1.1
  have hb := C.1.1.2.1
  refine lv_aload_n hx hb dL_law_140 rfl (lv_at hl 1 rfl) ?_
  refine l_argI C hG hl (k0 := 0) (k4 := 4) rfl rfl 1 (kv := 1) (by decide) (by decide) (by omega) dL_law_141 dL_law_142 dL_law_144 dL_law_145 dL_law_146 ?_
  refine l_argI C hG hl (k0 := 0) (k4 := 4) rfl rfl 2 (kv := 2) (by decide) (by decide) (by omega) dL_law_147 dL_law_148 dL_law_150 dL_law_151 dL_law_152 ?_
  refine l_argI C hG hl (k0 := 0) (k4 := 4) rfl rfl 3 (kv := 3) (by decide) (by decide) (by omega) dL_law_153 dL_law_154 dL_law_156 dL_law_157 dL_law_158 ?_
  refine l_argI C hG hl (k0 := 0) (k4 := 4) rfl rfl 4 (kv := 4) (by decide) (by decide) (by omega) dL_law_159 dL_law_160 dL_law_162 dL_law_163 dL_law_164 ?_
  refine l_argI C hG hl (k0 := 0) (k4 := 4) rfl rfl 5 (kv := 5) (by decide) (by decide) (by omega) dL_law_165 dL_law_166 dL_law_168 dL_law_169 dL_law_170 ?_
  have G := j_feed J (xs (i + 1)) (xs (i + 2)) (xs (i + 3)) (xs (i + 4)) (xs (i + 5))
  refine k_callV (n := 5) (As := [.int (xs (i + 1)), .int (xs (i + 2)), .int (xs (i + 3)), .int (xs (i + 4)), .int (xs (i + 5))]) (rest := []) (k := 100) (ci := 10) C.1 hG hL (lvC_L.f (by decide) (by decide)) rfl rfl (c_X9_feed sC rC lvC_L (xs (i + 1)) (xs (i + 2)) (xs (i + 3)) (xs (i + 4)) (xs (i + 5)) J.n61.1 J.n61.2) gL_law_X9_feed rfl ⟨rfl, rfl⟩ (by decide +kernel) ⟨by decide, by decide⟩ rfl hl.1 rfl (Nat.le_of_ble_eq_true rfl) dL_law_171 ⟨by { show cells + 0 ≤ 601024; omega }, by { show slots + 0 ≤ 7293034; omega }⟩ rfl (fun H1 locs1 hG1 hL1 => ?_)
  have hG : gW D s.heap (lvC lL0 (kFs sC)) ad (lW o ad K.2.2.1 cI cZ cB cO cR cJ f sM rM (kFs sC) (kFr (xs (i + 1)) (xs (i + 2)) (xs (i + 3)) (xs (i + 4)) (xs (i + 5)) sC rC)) H1 := by rw [kFs_lv]; exact hG1
  refine lv_aload_n hx hb dL_law_174 rfl (lv_at hl 2 rfl) ?_
  refine l_argI C hG hl (k0 := 0) (k4 := 4) rfl rfl 1 (kv := 1) (by decide) (by decide) (by omega) dL_law_175 dL_law_176 dL_law_178 dL_law_179 dL_law_180 ?_
  refine l_argI C hG hl (k0 := 0) (k4 := 4) rfl rfl 2 (kv := 2) (by decide) (by decide) (by omega) dL_law_181 dL_law_182 dL_law_184 dL_law_185 dL_law_186 ?_
  refine l_argI C hG hl (k0 := 0) (k4 := 4) rfl rfl 3 (kv := 3) (by decide) (by decide) (by omega) dL_law_187 dL_law_188 dL_law_190 dL_law_191 dL_law_192 ?_
  refine l_argI C hG hl (k0 := 0) (k4 := 4) rfl rfl 4 (kv := 4) (by decide) (by decide) (by omega) dL_law_193 dL_law_194 dL_law_196 dL_law_197 dL_law_198 ?_
  refine l_argI C hG hl (k0 := 0) (k4 := 4) rfl rfl 5 (kv := 5) (by decide) (by decide) (by omega) dL_law_199 dL_law_200 dL_law_202 dL_law_203 dL_law_204 ?_
  refine l_mod (n := 5) (As := [.int (xs (i + 1)), .int (xs (i + 2)), .int (xs (i + 3)), .int (xs (i + 4)), .int (xs (i + 5))]) (rest := [.int (kFv sC)]) C.1 hG hL1 (c_X10_feed lM_lv (xs (i + 1)) (xs (i + 2)) (xs (i + 3)) (xs (i + 4)) (xs (i + 5)) sM rM J.N.2.2.2.2.2.2.2.1 J.N.2.2.2.2.2.2.2.2) gL_law_X10_feed rfl (by decide +kernel) ⟨by decide, by decide⟩ rfl hl.1 rfl (Nat.le_of_ble_eq_true rfl) dL_law_205 ⟨by { show cells + 0 ≤ 601024; omega }, by { show slots + 0 ≤ 7293034; omega }⟩ (fun H2 locs2 hG2 hL2 => ?_)
  refine lv_icmp_eq (tgt := 1362) hx hb dL_law_208 (by decide) (fun _ => ?_) (fun z => absurd G.1 z)
  exact W.widen (k := cells + 120) (n := slots + 5040) (by omega) (by omega) (kk ad f _ _ _ _ H2 locs2 ls (fun _ _ => rfl) hG2 hL2 G.2 hl)
set_option maxHeartbeats 4000000 in
theorem lb_end (hst : l.stackTraces = false) (C : lC p m c s b L xs D cI cZ cB cO cR cJ K) (hG : gW D s.heap (lvC lL0 sC) ad (lW o ad K.2.2.1 cI cZ cB cO cR cJ f sM rM sC rC) H) (hL : gL s.heap locs) (J : jI sC rC sM rM) {a1 a2 a3 i : Nat} (h1 : a1 = ad 100) (h2 : a2 = ad 0) (h3 : a3 = ad 99) (hi : i + 8 ≤ L) (hl : lv_has ls 7 [(0, .ref b), (1, .ref a1), (2, .ref a2), (3, .ref a3), (4, .int (nI i))]) (hcs : cells + 120 ≤ 601024 ∧ slots + 5040 ≤ 7293034)
    (kk : ∀ (ad' : Nat → Nat) (f' : Nat → Int64) (sC' : Nat → Int32) (rC' : Nat → Nat → Int32) (sM' : Nat → Int32) (rM' : Nat → Nat → Int32) (H1 : Heap) (locs1 : List Loc) (ls1 : Array Slot), (∀ j, lvA lL0 j → ad' j = ad j) → gW D s.heap (lvC lL0 sC') ad' (lW o ad' K.2.2.1 cI cZ cB cO cR cJ f' sM' rM' sC' rC') H1 → gL s.heap locs1 → jI sC' rC' sM' rM' → lv_has ls1 7 [(0, .ref b), (1, .ref a1), (2, .ref a2), (3, .ref a3), (4, .int (nI i))] → W p l e room_1 s m #[.ref b] below meth c H1 locs1 (cells + 120) (slots + 5040) Q (F0 m 1362 ls1 [])) : W p l e room_1 s m #[.ref b] below meth c H locs cells slots Q (F0 m 213 ls []) := by
  subst h1 h2 h3
  have hx := C.1.1.1
  have hb := C.1.1.2.1
  refine lv_aload_n hx hb dL_law_213 rfl (lv_at hl 1 rfl) ?_
  refine l_argI C hG hl (k0 := 0) (k4 := 4) rfl rfl 1 (kv := 1) (by decide) (by decide) (by omega) dL_law_214 dL_law_215 dL_law_217 dL_law_218 dL_law_219 ?_
  have G := j_end J (xs (i + 1))
  refine k_callV (n := 1) (As := [.int (xs (i + 1))]) (rest := []) (k := 100) (ci := 10) C.1 hG hL (lvC_L.f (by decide) (by decide)) rfl rfl (c_X9_end sC rC lvC_L (xs (i + 1)) ) gL_law_X9_end rfl ⟨rfl, rfl⟩ (by decide +kernel) ⟨by decide, by decide⟩ rfl hl.1 rfl (Nat.le_of_ble_eq_true rfl) dL_law_220 ⟨by { show cells + 0 ≤ 601024; omega }, by { show slots + 0 ≤ 7293034; omega }⟩ rfl (fun H1 locs1 hG1 hL1 => ?_)
  have hG : gW D s.heap (lvC lL0 (sCt (xs (i + 1)) sC)) ad (lW o ad K.2.2.1 cI cZ cB cO cR cJ f sM rM (sCt (xs (i + 1)) sC) (rC)) H1 := by rw [sCt_lv]; exact hG1
  refine lv_aload_n hx hb dL_law_223 rfl (lv_at hl 2 rfl) ?_
  refine l_argI C hG hl (k0 := 0) (k4 := 4) rfl rfl 1 (kv := 1) (by decide) (by decide) (by omega) dL_law_224 dL_law_225 dL_law_227 dL_law_228 dL_law_229 ?_
  refine l_mod (n := 1) (As := [.int (xs (i + 1))]) (rest := [.int (vCt (xs (i + 1)) sC)]) C.1 hG hL1 (c_X10_end lM_lv (xs (i + 1)) sM rM ) gL_law_X10_end rfl (by decide +kernel) ⟨by decide, by decide⟩ rfl hl.1 rfl (Nat.le_of_ble_eq_true rfl) dL_law_230 ⟨by { show cells + 0 ≤ 601024; omega }, by { show slots + 0 ≤ 7293034; omega }⟩ (fun H2 locs2 hG2 hL2 => ?_)
  refine lv_icmp_eq (tgt := 1362) hx hb dL_law_233 (by decide) (fun _ => ?_) (fun z => absurd G.1 z)
  exact W.widen (k := cells + 120) (n := slots + 5040) (by omega) (by omega) (kk ad f _ _ _ _ H2 locs2 ls (fun _ _ => rfl) hG2 hL2 G.2 hl)
set_option maxHeartbeats 4000000 in
theorem lb_weather (hst : l.stackTraces = false) (C : lC p m c s b L xs D cI cZ cB cO cR cJ K) (hG : gW D s.heap (lvC lL0 sC) ad (lW o ad K.2.2.1 cI cZ cB cO cR cJ f sM rM sC rC) H) (hL : gL s.heap locs) (J : jI sC rC sM rM) {a1 a2 a3 i : Nat} (h1 : a1 = ad 100) (h2 : a2 = ad 0) (h3 : a3 = ad 99) (hi : i + 8 ≤ L) (hl : lv_has ls 7 [(0, .ref b), (1, .ref a1), (2, .ref a2), (3, .ref a3), (4, .int (nI i))]) (hcs : cells + 120 ≤ 601024 ∧ slots + 5040 ≤ 7293034)
    (kk : ∀ (ad' : Nat → Nat) (f' : Nat → Int64) (sC' : Nat → Int32) (rC' : Nat → Nat → Int32) (sM' : Nat → Int32) (rM' : Nat → Nat → Int32) (H1 : Heap) (locs1 : List Loc) (ls1 : Array Slot), (∀ j, lvA lL0 j → ad' j = ad j) → gW D s.heap (lvC lL0 sC') ad' (lW o ad' K.2.2.1 cI cZ cB cO cR cJ f' sM' rM' sC' rC') H1 → gL s.heap locs1 → jI sC' rC' sM' rM' → lv_has ls1 7 [(0, .ref b), (1, .ref a1), (2, .ref a2), (3, .ref a3), (4, .int (nI i))] → W p l e room_1 s m #[.ref b] below meth c H1 locs1 (cells + 120) (slots + 5040) Q (F0 m 1362 ls1 [])) : W p l e room_1 s m #[.ref b] below meth c H locs cells slots Q (F0 m 238 ls []) := by
  subst h1 h2 h3
  have hx := C.1.1.1
  have hb := C.1.1.2.1
  refine lv_aload_n hx hb dL_law_238 rfl (lv_at hl 1 rfl) ?_
  refine l_argI C hG hl (k0 := 0) (k4 := 4) rfl rfl 1 (kv := 1) (by decide) (by decide) (by omega) dL_law_239 dL_law_240 dL_law_242 dL_law_243 dL_law_244 ?_
  refine l_argI C hG hl (k0 := 0) (k4 := 4) rfl rfl 2 (kv := 2) (by decide) (by decide) (by omega) dL_law_245 dL_law_246 dL_law_248 dL_law_249 dL_law_250 ?_
  refine l_argI C hG hl (k0 := 0) (k4 := 4) rfl rfl 3 (kv := 3) (by decide) (by decide) (by omega) dL_law_251 dL_law_252 dL_law_254 dL_law_255 dL_law_256 ?_
  obtain ⟨v, s1, r1, G, HM⟩ := hh_weather (l := l) (D := D) (Hb := s.heap) (K := K) (ad := ad) (cI := cI) (cZ := cZ) (cB := cB) (cO := cO) (cR := cR) hst J (lW_out (o := o) (ad := ad) (cI := cI) (cZ := cZ) (cJ := cJ) (f := f) (sM := sM) (rM := rM)) (xs (i + 1)) (xs (i + 2)) (xs (i + 3))
  refine l_help (n := 4) (As := [.ref (ad 100), .int (xs (i + 1)), .int (xs (i + 2)), .int (xs (i + 3))]) (rest := []) C.1 C.2.1 hG hL HM gL_law_L_weather rfl ⟨rfl, rfl⟩ (by decide +kernel) ⟨by decide, by decide⟩ rfl hl.1 rfl (Nat.le_of_ble_eq_true rfl) dL_law_257 ⟨by { show cells + 1 ≤ 601024; omega }, by { show slots + 6 ≤ 7293034; omega }⟩ (fun ad' f' H1 locs1 s3 r3 ha hL1 hG1 hq => ?_)
  have J1 := G.J hq
  have e5 := G.2.1
  have e0 := ha 0 (Or.inl ⟨by decide, Or.inl rfl⟩)
  have e1 := ha 100 (Or.inr rfl)
  have e9 := ha 99 (Or.inl ⟨by decide, lL0_99⟩)
  rw [← e0, ← e9] at hl
  clear hq HM
  generalize hC [eI, eA, eS] (xWe (xs (i + 1)) (xs (i + 2)) (xs (i + 3)) sC) = k5 at e5 ⊢
  refine lv_istore (lv' := [(5, .int k5), (0, .ref b), (1, .ref (ad 100)), (2, .ref (ad' 0)), (3, .ref (ad' 99)), (4, .int (nI i))]) hx hb dL_law_260 hl (by decide) rfl (fun ls1 hl => ?_)
  refine lv_aload_n hx hb dL_law_262 rfl (lv_at hl 3 rfl) ?_
  have hG := hG1
  refine l_argI C hG hl (k0 := 1) (k4 := 5) rfl rfl 1 (kv := 1) (by decide) (by decide) (by omega) dL_law_263 dL_law_264 dL_law_266 dL_law_267 dL_law_268 ?_
  refine l_argI C hG hl (k0 := 1) (k4 := 5) rfl rfl 2 (kv := 2) (by decide) (by decide) (by omega) dL_law_269 dL_law_270 dL_law_272 dL_law_273 dL_law_274 ?_
  refine l_argI C hG hl (k0 := 1) (k4 := 5) rfl rfl 3 (kv := 3) (by decide) (by decide) (by omega) dL_law_275 dL_law_276 dL_law_278 dL_law_279 dL_law_280 ?_
  refine l_mod (n := 3) (As := [.int (xs (i + 1)), .int (xs (i + 2)), .int (xs (i + 3))]) (rest := []) C.1 hG hL1 (c_X10_weather lM_lv (xs (i + 1)) (xs (i + 2)) (xs (i + 3)) sM rM ) gL_law_X10_weather rfl (by decide +kernel) ⟨by decide, by decide⟩ rfl hl.1 rfl (Nat.le_of_ble_eq_true rfl) dL_law_281 ⟨by { show cells + 1 ≤ 601024; omega }, by { show slots + 6 ≤ 7293034; omega }⟩ (fun H2 locs2 hG2 hL2 => ?_)
  exact l_tailW (pc := 284) C hG2 hL2 hl e5 ⟨by omega, by omega⟩ (by decide) dL_law_284 dL_law_285 dL_law_288 dL_law_290 dL_law_295 (fun H3 locs3 ls3 hG3 hL3 hl3 => W.widen (k := cells + 120) (n := slots + 5040) (by omega) (by omega) (kk ad' f' s3 r3 _ _ H3 locs3 ls3 ha hG3 hL3 J1 (by rw [← e0, ← e9]; exact hl3)))
set_option maxHeartbeats 4000000 in
theorem lb_foretell (hst : l.stackTraces = false) (C : lC p m c s b L xs D cI cZ cB cO cR cJ K) (hG : gW D s.heap (lvC lL0 sC) ad (lW o ad K.2.2.1 cI cZ cB cO cR cJ f sM rM sC rC) H) (hL : gL s.heap locs) (J : jI sC rC sM rM) {a1 a2 a3 i : Nat} (h1 : a1 = ad 100) (h2 : a2 = ad 0) (h3 : a3 = ad 99) (hi : i + 8 ≤ L) (hl : lv_has ls 7 [(0, .ref b), (1, .ref a1), (2, .ref a2), (3, .ref a3), (4, .int (nI i))]) (hcs : cells + 120 ≤ 601024 ∧ slots + 5040 ≤ 7293034)
    (kk : ∀ (ad' : Nat → Nat) (f' : Nat → Int64) (sC' : Nat → Int32) (rC' : Nat → Nat → Int32) (sM' : Nat → Int32) (rM' : Nat → Nat → Int32) (H1 : Heap) (locs1 : List Loc) (ls1 : Array Slot), (∀ j, lvA lL0 j → ad' j = ad j) → gW D s.heap (lvC lL0 sC') ad' (lW o ad' K.2.2.1 cI cZ cB cO cR cJ f' sM' rM' sC' rC') H1 → gL s.heap locs1 → jI sC' rC' sM' rM' → lv_has ls1 7 [(0, .ref b), (1, .ref a1), (2, .ref a2), (3, .ref a3), (4, .int (nI i))] → W p l e room_1 s m #[.ref b] below meth c H1 locs1 (cells + 120) (slots + 5040) Q (F0 m 1362 ls1 [])) : W p l e room_1 s m #[.ref b] below meth c H locs cells slots Q (F0 m 298 ls []) := by
  subst h1 h2 h3
  have hx := C.1.1.1
  have hb := C.1.1.2.1
  refine lv_aload_n hx hb dL_law_298 rfl (lv_at hl 1 rfl) ?_
  refine l_argI C hG hl (k0 := 0) (k4 := 4) rfl rfl 1 (kv := 1) (by decide) (by decide) (by omega) dL_law_299 dL_law_300 dL_law_302 dL_law_303 dL_law_304 ?_
  refine l_argI C hG hl (k0 := 0) (k4 := 4) rfl rfl 2 (kv := 2) (by decide) (by decide) (by omega) dL_law_305 dL_law_306 dL_law_308 dL_law_309 dL_law_310 ?_
  refine l_argI C hG hl (k0 := 0) (k4 := 4) rfl rfl 3 (kv := 3) (by decide) (by decide) (by omega) dL_law_311 dL_law_312 dL_law_314 dL_law_315 dL_law_316 ?_
  obtain ⟨v, s1, r1, G, HM⟩ := hh_foretell (l := l) (D := D) (Hb := s.heap) (K := K) (ad := ad) (cI := cI) (cZ := cZ) (cB := cB) (cO := cO) (cR := cR) hst J (lW_out (o := o) (ad := ad) (cI := cI) (cZ := cZ) (cJ := cJ) (f := f) (sM := sM) (rM := rM)) (xs (i + 1)) (xs (i + 2)) (xs (i + 3))
  refine l_help (n := 4) (As := [.ref (ad 100), .int (xs (i + 1)), .int (xs (i + 2)), .int (xs (i + 3))]) (rest := []) C.1 C.2.1 hG hL HM gL_law_L_foretell rfl ⟨rfl, rfl⟩ (by decide +kernel) ⟨by decide, by decide⟩ rfl hl.1 rfl (Nat.le_of_ble_eq_true rfl) dL_law_317 ⟨by { show cells + 1 ≤ 601024; omega }, by { show slots + 6 ≤ 7293034; omega }⟩ (fun ad' f' H1 locs1 s3 r3 ha hL1 hG1 hq => ?_)
  have J1 := G.J hq
  have e5 := G.2.1
  have e0 := ha 0 (Or.inl ⟨by decide, Or.inl rfl⟩)
  have e1 := ha 100 (Or.inr rfl)
  have e9 := ha 99 (Or.inl ⟨by decide, lL0_99⟩)
  rw [← e0, ← e9] at hl
  clear hq HM
  generalize hC [eI, eA] (xFo (xs (i + 1)) (xs (i + 2)) (xs (i + 3))) = k5 at e5 ⊢
  refine lv_istore (lv' := [(5, .int k5), (0, .ref b), (1, .ref (ad 100)), (2, .ref (ad' 0)), (3, .ref (ad' 99)), (4, .int (nI i))]) hx hb dL_law_320 hl (by decide) rfl (fun ls1 hl => ?_)
  refine lv_aload_n hx hb dL_law_322 rfl (lv_at hl 3 rfl) ?_
  have hG := hG1
  refine l_argI C hG hl (k0 := 1) (k4 := 5) rfl rfl 1 (kv := 1) (by decide) (by decide) (by omega) dL_law_323 dL_law_324 dL_law_326 dL_law_327 dL_law_328 ?_
  refine l_argI C hG hl (k0 := 1) (k4 := 5) rfl rfl 2 (kv := 2) (by decide) (by decide) (by omega) dL_law_329 dL_law_330 dL_law_332 dL_law_333 dL_law_334 ?_
  refine l_argI C hG hl (k0 := 1) (k4 := 5) rfl rfl 3 (kv := 3) (by decide) (by decide) (by omega) dL_law_335 dL_law_336 dL_law_338 dL_law_339 dL_law_340 ?_
  refine l_mod (n := 3) (As := [.int (xs (i + 1)), .int (xs (i + 2)), .int (xs (i + 3))]) (rest := []) C.1 hG hL1 (c_X10_foretell lM_lv (xs (i + 1)) (xs (i + 2)) (xs (i + 3)) sM rM ) gL_law_X10_foretell rfl (by decide +kernel) ⟨by decide, by decide⟩ rfl hl.1 rfl (Nat.le_of_ble_eq_true rfl) dL_law_341 ⟨by { show cells + 1 ≤ 601024; omega }, by { show slots + 6 ≤ 7293034; omega }⟩ (fun H2 locs2 hG2 hL2 => ?_)
  exact l_tailW (pc := 344) C hG2 hL2 hl e5 ⟨by omega, by omega⟩ (by decide) dL_law_344 dL_law_345 dL_law_348 dL_law_350 dL_law_355 (fun H3 locs3 ls3 hG3 hL3 hl3 => W.widen (k := cells + 120) (n := slots + 5040) (by omega) (by omega) (kk ad' f' s3 r3 _ _ H3 locs3 ls3 ha hG3 hL3 J1 (by rw [← e0, ← e9]; exact hl3)))
set_option maxHeartbeats 4000000 in
theorem lb_hive (hst : l.stackTraces = false) (C : lC p m c s b L xs D cI cZ cB cO cR cJ K) (hG : gW D s.heap (lvC lL0 sC) ad (lW o ad K.2.2.1 cI cZ cB cO cR cJ f sM rM sC rC) H) (hL : gL s.heap locs) (J : jI sC rC sM rM) {a1 a2 a3 i : Nat} (h1 : a1 = ad 100) (h2 : a2 = ad 0) (h3 : a3 = ad 99) (hi : i + 8 ≤ L) (hl : lv_has ls 7 [(0, .ref b), (1, .ref a1), (2, .ref a2), (3, .ref a3), (4, .int (nI i))]) (hcs : cells + 120 ≤ 601024 ∧ slots + 5040 ≤ 7293034)
    (kk : ∀ (ad' : Nat → Nat) (f' : Nat → Int64) (sC' : Nat → Int32) (rC' : Nat → Nat → Int32) (sM' : Nat → Int32) (rM' : Nat → Nat → Int32) (H1 : Heap) (locs1 : List Loc) (ls1 : Array Slot), (∀ j, lvA lL0 j → ad' j = ad j) → gW D s.heap (lvC lL0 sC') ad' (lW o ad' K.2.2.1 cI cZ cB cO cR cJ f' sM' rM' sC' rC') H1 → gL s.heap locs1 → jI sC' rC' sM' rM' → lv_has ls1 7 [(0, .ref b), (1, .ref a1), (2, .ref a2), (3, .ref a3), (4, .int (nI i))] → W p l e room_1 s m #[.ref b] below meth c H1 locs1 (cells + 120) (slots + 5040) Q (F0 m 1362 ls1 [])) : W p l e room_1 s m #[.ref b] below meth c H locs cells slots Q (F0 m 358 ls []) := by
  subst h1 h2 h3
  have hx := C.1.1.1
  have hb := C.1.1.2.1
  refine lv_aload_n hx hb dL_law_358 rfl (lv_at hl 1 rfl) ?_
  refine l_argI C hG hl (k0 := 0) (k4 := 4) rfl rfl 1 (kv := 1) (by decide) (by decide) (by omega) dL_law_359 dL_law_360 dL_law_362 dL_law_363 dL_law_364 ?_
  refine l_argI C hG hl (k0 := 0) (k4 := 4) rfl rfl 2 (kv := 2) (by decide) (by decide) (by omega) dL_law_365 dL_law_366 dL_law_368 dL_law_369 dL_law_370 ?_
  refine l_argI C hG hl (k0 := 0) (k4 := 4) rfl rfl 3 (kv := 3) (by decide) (by decide) (by omega) dL_law_371 dL_law_372 dL_law_374 dL_law_375 dL_law_376 ?_
  refine l_argI C hG hl (k0 := 0) (k4 := 4) rfl rfl 4 (kv := 4) (by decide) (by decide) (by omega) dL_law_377 dL_law_378 dL_law_380 dL_law_381 dL_law_382 ?_
  refine l_argI C hG hl (k0 := 0) (k4 := 4) rfl rfl 5 (kv := 5) (by decide) (by decide) (by omega) dL_law_383 dL_law_384 dL_law_386 dL_law_387 dL_law_388 ?_
  refine lv_aload_n hx hb dL_law_389 rfl (lv_at hl 3 rfl) ?_
  obtain ⟨v, s1, r1, G, HM⟩ := hh_hive (l := l) (D := D) (Hb := s.heap) (K := K) (ad := ad) (cI := cI) (cZ := cZ) (cB := cB) (cO := cO) (cR := cR) hst J (lW_out (o := o) (ad := ad) (cI := cI) (cZ := cZ) (cJ := cJ) (f := f) (sM := sM) (rM := rM)) (xs (i + 1)) (xs (i + 2)) (xs (i + 3)) (xs (i + 4)) (xs (i + 5))
  refine l_help (n := 7) (As := [.ref (ad 100), .int (xs (i + 1)), .int (xs (i + 2)), .int (xs (i + 3)), .int (xs (i + 4)), .int (xs (i + 5)), .ref (ad 99)]) (rest := []) C.1 C.2.1 hG hL HM gL_law_L_hive rfl ⟨rfl, rfl⟩ (by decide +kernel) ⟨by decide, by decide⟩ rfl hl.1 rfl (Nat.le_of_ble_eq_true rfl) dL_law_390 ⟨by { show cells + 2 ≤ 601024; omega }, by { show slots + 90 ≤ 7293034; omega }⟩ (fun ad' f' H1 locs1 s3 r3 ha hL1 hG1 hq => ?_)
  have J1 := G.J hq
  have V1 := G.V hq (by decide)
  have e5 := G.2.1
  have e0 := ha 0 (Or.inl ⟨by decide, Or.inl rfl⟩)
  have e1 := ha 100 (Or.inr rfl)
  have e9 := ha 99 (Or.inl ⟨by decide, lL0_99⟩)
  rw [← e0, ← e9] at hl
  clear hq HM
  generalize hC [eA, eU] (xHi (xs (i + 1)) (xs (i + 2)) (xs (i + 3)) (xs (i + 4)) (xs (i + 5)) sC) = k5 at V1 e5 ⊢
  refine lv_istore (lv' := [(5, .int k5), (0, .ref b), (1, .ref (ad 100)), (2, .ref (ad' 0)), (3, .ref (ad' 99)), (4, .int (nI i))]) hx hb dL_law_393 hl (by decide) rfl (fun ls1 hl => ?_)
  refine lv_aload_n hx hb dL_law_395 rfl (lv_at hl 3 rfl) ?_
  have hG := hG1
  refine l_argI C hG hl (k0 := 1) (k4 := 5) rfl rfl 1 (kv := 1) (by decide) (by decide) (by omega) dL_law_396 dL_law_397 dL_law_399 dL_law_400 dL_law_401 ?_
  refine l_argI C hG hl (k0 := 1) (k4 := 5) rfl rfl 2 (kv := 2) (by decide) (by decide) (by omega) dL_law_402 dL_law_403 dL_law_405 dL_law_406 dL_law_407 ?_
  refine l_argI C hG hl (k0 := 1) (k4 := 5) rfl rfl 3 (kv := 3) (by decide) (by decide) (by omega) dL_law_408 dL_law_409 dL_law_411 dL_law_412 dL_law_413 ?_
  refine l_argI C hG hl (k0 := 1) (k4 := 5) rfl rfl 4 (kv := 4) (by decide) (by decide) (by omega) dL_law_414 dL_law_415 dL_law_417 dL_law_418 dL_law_419 ?_
  refine l_argI C hG hl (k0 := 1) (k4 := 5) rfl rfl 5 (kv := 5) (by decide) (by decide) (by omega) dL_law_420 dL_law_421 dL_law_423 dL_law_424 dL_law_425 ?_
  refine l_mod (n := 5) (As := [.int (xs (i + 1)), .int (xs (i + 2)), .int (xs (i + 3)), .int (xs (i + 4)), .int (xs (i + 5))]) (rest := []) C.1 hG hL1 (c_X10_hive lM_lv (xs (i + 1)) (xs (i + 2)) (xs (i + 3)) (xs (i + 4)) (xs (i + 5)) sM rM J.N.2.1.1 J.N.2.1.2) gL_law_X10_hive rfl (by decide +kernel) ⟨by decide, by decide⟩ rfl hl.1 rfl (Nat.le_of_ble_eq_true rfl) dL_law_426 ⟨by { show cells + 2 ≤ 601024; omega }, by { show slots + 90 ≤ 7293034; omega }⟩ (fun H2 locs2 hG2 hL2 => ?_)
  exact l_tailV (pc := 429) C hG2 hL2 hl e5 V1 ⟨by omega, by omega⟩ (by decide) dL_law_429 dL_law_431 dL_law_432 dL_law_435 dL_law_437 dL_law_442 dL_law_444 dL_law_447 dL_law_448 dL_law_449 dL_law_450 dL_law_452 dL_law_453 dL_law_454 dL_law_459 (fun H3 locs3 ls3 hG3 hL3 hl3 => W.widen (k := cells + 120) (n := slots + 5040) (by omega) (by omega) (kk ad' f' s3 r3 _ _ H3 locs3 ls3 ha hG3 hL3 J1 (by rw [← e0, ← e9]; exact hl3)))
set_option maxHeartbeats 4000000 in
theorem lb_keeper (hst : l.stackTraces = false) (C : lC p m c s b L xs D cI cZ cB cO cR cJ K) (hG : gW D s.heap (lvC lL0 sC) ad (lW o ad K.2.2.1 cI cZ cB cO cR cJ f sM rM sC rC) H) (hL : gL s.heap locs) (J : jI sC rC sM rM) {a1 a2 a3 i : Nat} (h1 : a1 = ad 100) (h2 : a2 = ad 0) (h3 : a3 = ad 99) (hi : i + 8 ≤ L) (hl : lv_has ls 7 [(0, .ref b), (1, .ref a1), (2, .ref a2), (3, .ref a3), (4, .int (nI i))]) (hcs : cells + 120 ≤ 601024 ∧ slots + 5040 ≤ 7293034)
    (kk : ∀ (ad' : Nat → Nat) (f' : Nat → Int64) (sC' : Nat → Int32) (rC' : Nat → Nat → Int32) (sM' : Nat → Int32) (rM' : Nat → Nat → Int32) (H1 : Heap) (locs1 : List Loc) (ls1 : Array Slot), (∀ j, lvA lL0 j → ad' j = ad j) → gW D s.heap (lvC lL0 sC') ad' (lW o ad' K.2.2.1 cI cZ cB cO cR cJ f' sM' rM' sC' rC') H1 → gL s.heap locs1 → jI sC' rC' sM' rM' → lv_has ls1 7 [(0, .ref b), (1, .ref a1), (2, .ref a2), (3, .ref a3), (4, .int (nI i))] → W p l e room_1 s m #[.ref b] below meth c H1 locs1 (cells + 120) (slots + 5040) Q (F0 m 1362 ls1 [])) : W p l e room_1 s m #[.ref b] below meth c H locs cells slots Q (F0 m 462 ls []) := by
  subst h1 h2 h3
  have hx := C.1.1.1
  have hb := C.1.1.2.1
  refine lv_aload_n hx hb dL_law_462 rfl (lv_at hl 1 rfl) ?_
  refine l_argI C hG hl (k0 := 0) (k4 := 4) rfl rfl 1 (kv := 1) (by decide) (by decide) (by omega) dL_law_463 dL_law_464 dL_law_466 dL_law_467 dL_law_468 ?_
  refine l_argI C hG hl (k0 := 0) (k4 := 4) rfl rfl 2 (kv := 2) (by decide) (by decide) (by omega) dL_law_469 dL_law_470 dL_law_472 dL_law_473 dL_law_474 ?_
  refine l_argI C hG hl (k0 := 0) (k4 := 4) rfl rfl 3 (kv := 3) (by decide) (by decide) (by omega) dL_law_475 dL_law_476 dL_law_478 dL_law_479 dL_law_480 ?_
  refine l_argI C hG hl (k0 := 0) (k4 := 4) rfl rfl 4 (kv := 4) (by decide) (by decide) (by omega) dL_law_481 dL_law_482 dL_law_484 dL_law_485 dL_law_486 ?_
  refine l_argI C hG hl (k0 := 0) (k4 := 4) rfl rfl 5 (kv := 5) (by decide) (by decide) (by omega) dL_law_487 dL_law_488 dL_law_490 dL_law_491 dL_law_492 ?_
  refine l_argB C hG hl (k0 := 0) (k4 := 4) rfl rfl 6 (kv := 6) (by decide) (by decide) (by omega) dL_law_493 dL_law_494 dL_law_496 dL_law_498 dL_law_499 ?_
  refine l_argB C hG hl (k0 := 0) (k4 := 4) rfl rfl 7 (kv := 7) (by decide) (by decide) (by omega) dL_law_500 dL_law_501 dL_law_503 dL_law_505 dL_law_506 ?_
  refine lv_aload_n hx hb dL_law_507 rfl (lv_at hl 3 rfl) ?_
  obtain ⟨v, s1, r1, G, HM⟩ := hh_keeper (l := l) (D := D) (Hb := s.heap) (K := K) (ad := ad) (cI := cI) (cZ := cZ) (cB := cB) (cO := cO) (cR := cR) hst J (lW_out (o := o) (ad := ad) (cI := cI) (cZ := cZ) (cJ := cJ) (f := f) (sM := sM) (rM := rM)) (xs (i + 1)) (xs (i + 2)) (xs (i + 3)) (xs (i + 4)) (xs (i + 5)) (xs (i + 6)) (xs (i + 7))
  refine l_help (n := 9) (As := [.ref (ad 100), .int (xs (i + 1)), .int (xs (i + 2)), .int (xs (i + 3)), .int (xs (i + 4)), .int (xs (i + 5)), .int (xs (i + 6)), .int (xs (i + 7)), .ref (ad 99)]) (rest := []) C.1 C.2.1 hG hL HM gL_law_L_keeper rfl ⟨rfl, rfl⟩ (by decide +kernel) ⟨by decide, by decide⟩ rfl hl.1 rfl (Nat.le_of_ble_eq_true rfl) dL_law_508 ⟨by { show cells + 2 ≤ 601024; omega }, by { show slots + 90 ≤ 7293034; omega }⟩ (fun ad' f' H1 locs1 s3 r3 ha hL1 hG1 hq => ?_)
  have J1 := G.J hq
  have V1 := G.V hq (by decide)
  have e5 := G.2.1
  have e0 := ha 0 (Or.inl ⟨by decide, Or.inl rfl⟩)
  have e1 := ha 100 (Or.inr rfl)
  have e9 := ha 99 (Or.inl ⟨by decide, lL0_99⟩)
  rw [← e0, ← e9] at hl
  clear hq HM
  generalize hC [eA, eU] (xKe (xs (i + 1)) (xs (i + 2)) (xs (i + 3)) (xs (i + 4)) (xs (i + 5)) (xs (i + 6)) (xs (i + 7)) sC) = k5 at V1 e5 ⊢
  refine lv_istore (lv' := [(5, .int k5), (0, .ref b), (1, .ref (ad 100)), (2, .ref (ad' 0)), (3, .ref (ad' 99)), (4, .int (nI i))]) hx hb dL_law_511 hl (by decide) rfl (fun ls1 hl => ?_)
  refine lv_aload_n hx hb dL_law_513 rfl (lv_at hl 3 rfl) ?_
  have hG := hG1
  refine l_argI C hG hl (k0 := 1) (k4 := 5) rfl rfl 1 (kv := 1) (by decide) (by decide) (by omega) dL_law_514 dL_law_515 dL_law_517 dL_law_518 dL_law_519 ?_
  refine l_argI C hG hl (k0 := 1) (k4 := 5) rfl rfl 2 (kv := 2) (by decide) (by decide) (by omega) dL_law_520 dL_law_521 dL_law_523 dL_law_524 dL_law_525 ?_
  refine l_argI C hG hl (k0 := 1) (k4 := 5) rfl rfl 3 (kv := 3) (by decide) (by decide) (by omega) dL_law_526 dL_law_527 dL_law_529 dL_law_530 dL_law_531 ?_
  refine l_argI C hG hl (k0 := 1) (k4 := 5) rfl rfl 4 (kv := 4) (by decide) (by decide) (by omega) dL_law_532 dL_law_533 dL_law_535 dL_law_536 dL_law_537 ?_
  refine l_argI C hG hl (k0 := 1) (k4 := 5) rfl rfl 5 (kv := 5) (by decide) (by decide) (by omega) dL_law_538 dL_law_539 dL_law_541 dL_law_542 dL_law_543 ?_
  refine l_argB C hG hl (k0 := 1) (k4 := 5) rfl rfl 6 (kv := 6) (by decide) (by decide) (by omega) dL_law_544 dL_law_545 dL_law_547 dL_law_549 dL_law_550 ?_
  refine l_argB C hG hl (k0 := 1) (k4 := 5) rfl rfl 7 (kv := 7) (by decide) (by decide) (by omega) dL_law_551 dL_law_552 dL_law_554 dL_law_556 dL_law_557 ?_
  refine l_mod (n := 7) (As := [.int (xs (i + 1)), .int (xs (i + 2)), .int (xs (i + 3)), .int (xs (i + 4)), .int (xs (i + 5)), .int (xs (i + 6)), .int (xs (i + 7))]) (rest := []) C.1 hG hL1 (c_X10_keeper lM_lv (xs (i + 1)) (xs (i + 2)) (xs (i + 3)) (xs (i + 4)) (xs (i + 5)) (xs (i + 6)) (xs (i + 7)) sM rM J.N.2.2.2.1.1 J.N.2.2.2.1.2) gL_law_X10_keeper rfl (by decide +kernel) ⟨by decide, by decide⟩ rfl hl.1 rfl (Nat.le_of_ble_eq_true rfl) dL_law_558 ⟨by { show cells + 2 ≤ 601024; omega }, by { show slots + 90 ≤ 7293034; omega }⟩ (fun H2 locs2 hG2 hL2 => ?_)
  exact l_tailV (pc := 561) C hG2 hL2 hl e5 V1 ⟨by omega, by omega⟩ (by decide) dL_law_561 dL_law_563 dL_law_564 dL_law_567 dL_law_569 dL_law_574 dL_law_576 dL_law_579 dL_law_580 dL_law_581 dL_law_582 dL_law_584 dL_law_585 dL_law_586 dL_law_591 (fun H3 locs3 ls3 hG3 hL3 hl3 => W.widen (k := cells + 120) (n := slots + 5040) (by omega) (by omega) (kk ad' f' s3 r3 _ _ H3 locs3 ls3 ha hG3 hL3 J1 (by rw [← e0, ← e9]; exact hl3)))
set_option maxHeartbeats 4000000 in
theorem lb_boxes (hst : l.stackTraces = false) (C : lC p m c s b L xs D cI cZ cB cO cR cJ K) (hG : gW D s.heap (lvC lL0 sC) ad (lW o ad K.2.2.1 cI cZ cB cO cR cJ f sM rM sC rC) H) (hL : gL s.heap locs) (J : jI sC rC sM rM) {a1 a2 a3 i : Nat} (h1 : a1 = ad 100) (h2 : a2 = ad 0) (h3 : a3 = ad 99) (hi : i + 8 ≤ L) (hl : lv_has ls 7 [(0, .ref b), (1, .ref a1), (2, .ref a2), (3, .ref a3), (4, .int (nI i))]) (hcs : cells + 120 ≤ 601024 ∧ slots + 5040 ≤ 7293034)
    (kk : ∀ (ad' : Nat → Nat) (f' : Nat → Int64) (sC' : Nat → Int32) (rC' : Nat → Nat → Int32) (sM' : Nat → Int32) (rM' : Nat → Nat → Int32) (H1 : Heap) (locs1 : List Loc) (ls1 : Array Slot), (∀ j, lvA lL0 j → ad' j = ad j) → gW D s.heap (lvC lL0 sC') ad' (lW o ad' K.2.2.1 cI cZ cB cO cR cJ f' sM' rM' sC' rC') H1 → gL s.heap locs1 → jI sC' rC' sM' rM' → lv_has ls1 7 [(0, .ref b), (1, .ref a1), (2, .ref a2), (3, .ref a3), (4, .int (nI i))] → W p l e room_1 s m #[.ref b] below meth c H1 locs1 (cells + 120) (slots + 5040) Q (F0 m 1362 ls1 [])) : W p l e room_1 s m #[.ref b] below meth c H locs cells slots Q (F0 m 594 ls []) := by
  subst h1 h2 h3
  have hx := C.1.1.1
  have hb := C.1.1.2.1
  refine lv_aload_n hx hb dL_law_594 rfl (lv_at hl 1 rfl) ?_
  refine l_argI C hG hl (k0 := 0) (k4 := 4) rfl rfl 1 (kv := 1) (by decide) (by decide) (by omega) dL_law_595 dL_law_596 dL_law_598 dL_law_599 dL_law_600 ?_
  refine l_argI C hG hl (k0 := 0) (k4 := 4) rfl rfl 2 (kv := 2) (by decide) (by decide) (by omega) dL_law_601 dL_law_602 dL_law_604 dL_law_605 dL_law_606 ?_
  refine lv_aload_n hx hb dL_law_607 rfl (lv_at hl 3 rfl) ?_
  obtain ⟨v, s1, r1, G, HM⟩ := hh_boxes (l := l) (D := D) (Hb := s.heap) (K := K) (ad := ad) (cI := cI) (cZ := cZ) (cB := cB) (cO := cO) (cR := cR) hst J (lW_out (o := o) (ad := ad) (cI := cI) (cZ := cZ) (cJ := cJ) (f := f) (sM := sM) (rM := rM)) (xs (i + 1)) (xs (i + 2))
  refine l_help (n := 4) (As := [.ref (ad 100), .int (xs (i + 1)), .int (xs (i + 2)), .ref (ad 99)]) (rest := []) C.1 C.2.1 hG hL HM gL_law_L_boxes rfl ⟨rfl, rfl⟩ (by decide +kernel) ⟨by decide, by decide⟩ rfl hl.1 rfl (Nat.le_of_ble_eq_true rfl) dL_law_608 ⟨by { show cells + 2 ≤ 601024; omega }, by { show slots + 12 ≤ 7293034; omega }⟩ (fun ad' f' H1 locs1 s3 r3 ha hL1 hG1 hq => ?_)
  have J1 := G.J hq
  have V1 := G.V hq (by decide)
  have e5 := G.2.1
  have e0 := ha 0 (Or.inl ⟨by decide, Or.inl rfl⟩)
  have e1 := ha 100 (Or.inr rfl)
  have e9 := ha 99 (Or.inl ⟨by decide, lL0_99⟩)
  rw [← e0, ← e9] at hl
  clear hq HM
  generalize hC [eI, eA] (xBo (sC 26) (xs (i + 1)) (xs (i + 2))) = k5 at V1 e5 ⊢
  refine lv_istore (lv' := [(5, .int k5), (0, .ref b), (1, .ref (ad 100)), (2, .ref (ad' 0)), (3, .ref (ad' 99)), (4, .int (nI i))]) hx hb dL_law_611 hl (by decide) rfl (fun ls1 hl => ?_)
  refine lv_aload_n hx hb dL_law_613 rfl (lv_at hl 3 rfl) ?_
  have hG := hG1
  refine l_argI C hG hl (k0 := 1) (k4 := 5) rfl rfl 1 (kv := 1) (by decide) (by decide) (by omega) dL_law_614 dL_law_615 dL_law_617 dL_law_618 dL_law_619 ?_
  refine l_argI C hG hl (k0 := 1) (k4 := 5) rfl rfl 2 (kv := 2) (by decide) (by decide) (by omega) dL_law_620 dL_law_621 dL_law_623 dL_law_624 dL_law_625 ?_
  refine l_mod (n := 2) (As := [.int (xs (i + 1)), .int (xs (i + 2))]) (rest := []) C.1 hG hL1 (c_X10_boxes lM_lv (xs (i + 1)) (xs (i + 2)) sM rM J.N.2.2.2.1.2) gL_law_X10_boxes rfl (by decide +kernel) ⟨by decide, by decide⟩ rfl hl.1 rfl (Nat.le_of_ble_eq_true rfl) dL_law_626 ⟨by { show cells + 2 ≤ 601024; omega }, by { show slots + 12 ≤ 7293034; omega }⟩ (fun H2 locs2 hG2 hL2 => ?_)
  exact l_tailV (pc := 629) C hG2 hL2 hl e5 V1 ⟨by omega, by omega⟩ (by decide) dL_law_629 dL_law_631 dL_law_632 dL_law_635 dL_law_637 dL_law_642 dL_law_644 dL_law_647 dL_law_648 dL_law_649 dL_law_650 dL_law_652 dL_law_653 dL_law_654 dL_law_659 (fun H3 locs3 ls3 hG3 hL3 hl3 => W.widen (k := cells + 120) (n := slots + 5040) (by omega) (by omega) (kk ad' f' s3 r3 _ _ H3 locs3 ls3 ha hG3 hL3 J1 (by rw [← e0, ← e9]; exact hl3)))
set_option maxHeartbeats 4000000 in
theorem lb_hours (hst : l.stackTraces = false) (C : lC p m c s b L xs D cI cZ cB cO cR cJ K) (hG : gW D s.heap (lvC lL0 sC) ad (lW o ad K.2.2.1 cI cZ cB cO cR cJ f sM rM sC rC) H) (hL : gL s.heap locs) (J : jI sC rC sM rM) {a1 a2 a3 i : Nat} (h1 : a1 = ad 100) (h2 : a2 = ad 0) (h3 : a3 = ad 99) (hi : i + 8 ≤ L) (hl : lv_has ls 7 [(0, .ref b), (1, .ref a1), (2, .ref a2), (3, .ref a3), (4, .int (nI i))]) (hcs : cells + 120 ≤ 601024 ∧ slots + 5040 ≤ 7293034)
    (kk : ∀ (ad' : Nat → Nat) (f' : Nat → Int64) (sC' : Nat → Int32) (rC' : Nat → Nat → Int32) (sM' : Nat → Int32) (rM' : Nat → Nat → Int32) (H1 : Heap) (locs1 : List Loc) (ls1 : Array Slot), (∀ j, lvA lL0 j → ad' j = ad j) → gW D s.heap (lvC lL0 sC') ad' (lW o ad' K.2.2.1 cI cZ cB cO cR cJ f' sM' rM' sC' rC') H1 → gL s.heap locs1 → jI sC' rC' sM' rM' → lv_has ls1 7 [(0, .ref b), (1, .ref a1), (2, .ref a2), (3, .ref a3), (4, .int (nI i))] → W p l e room_1 s m #[.ref b] below meth c H1 locs1 (cells + 120) (slots + 5040) Q (F0 m 1362 ls1 [])) : W p l e room_1 s m #[.ref b] below meth c H locs cells slots Q (F0 m 662 ls []) := by
  subst h1 h2 h3
  have hx := C.1.1.1
  have hb := C.1.1.2.1
  refine lv_aload_n hx hb dL_law_662 rfl (lv_at hl 1 rfl) ?_
  refine l_argI C hG hl (k0 := 0) (k4 := 4) rfl rfl 1 (kv := 1) (by decide) (by decide) (by omega) dL_law_663 dL_law_664 dL_law_666 dL_law_667 dL_law_668 ?_
  refine lv_aload_n hx hb dL_law_669 rfl (lv_at hl 3 rfl) ?_
  obtain ⟨v, s1, r1, G, HM⟩ := hh_hours (l := l) (D := D) (Hb := s.heap) (K := K) (ad := ad) (cI := cI) (cZ := cZ) (cB := cB) (cO := cO) (cR := cR) hst J (lW_out (o := o) (ad := ad) (cI := cI) (cZ := cZ) (cJ := cJ) (f := f) (sM := sM) (rM := rM)) (xs (i + 1))
  refine l_help (n := 3) (As := [.ref (ad 100), .int (xs (i + 1)), .ref (ad 99)]) (rest := []) C.1 C.2.1 hG hL HM gL_law_L_hours rfl ⟨rfl, rfl⟩ (by decide +kernel) ⟨by decide, by decide⟩ rfl hl.1 rfl (Nat.le_of_ble_eq_true rfl) dL_law_670 ⟨by { show cells + 120 ≤ 601024; omega }, by { show slots + 5040 ≤ 7293034; omega }⟩ (fun ad' f' H1 locs1 s3 r3 ha hL1 hG1 hq => ?_)
  have J1 := G.J hq
  have V1 := G.V hq (by decide)
  have e5 := G.2.1
  have e0 := ha 0 (Or.inl ⟨by decide, Or.inl rfl⟩)
  have e1 := ha 100 (Or.inr rfl)
  have e9 := ha 99 (Or.inl ⟨by decide, lL0_99⟩)
  rw [← e0, ← e9] at hl
  clear hq HM
  generalize hC [eA] (xHs (xs (i + 1))) = k5 at V1 e5 ⊢
  refine lv_istore (lv' := [(5, .int k5), (0, .ref b), (1, .ref (ad 100)), (2, .ref (ad' 0)), (3, .ref (ad' 99)), (4, .int (nI i))]) hx hb dL_law_673 hl (by decide) rfl (fun ls1 hl => ?_)
  refine lv_aload_n hx hb dL_law_675 rfl (lv_at hl 3 rfl) ?_
  have hG := hG1
  refine l_argI C hG hl (k0 := 1) (k4 := 5) rfl rfl 1 (kv := 1) (by decide) (by decide) (by omega) dL_law_676 dL_law_677 dL_law_679 dL_law_680 dL_law_681 ?_
  refine l_mod (n := 1) (As := [.int (xs (i + 1))]) (rest := []) C.1 hG hL1 (c_X10_hours lM_lv (xs (i + 1)) sM rM J.HI) gL_law_X10_hours rfl (by decide +kernel) ⟨by decide, by decide⟩ rfl hl.1 rfl (Nat.le_of_ble_eq_true rfl) dL_law_682 ⟨by { show cells + 120 ≤ 601024; omega }, by { show slots + 5040 ≤ 7293034; omega }⟩ (fun H2 locs2 hG2 hL2 => ?_)
  exact l_tailV (pc := 685) C hG2 hL2 hl e5 V1 ⟨by omega, by omega⟩ (by decide) dL_law_685 dL_law_687 dL_law_688 dL_law_691 dL_law_693 dL_law_698 dL_law_700 dL_law_703 dL_law_704 dL_law_705 dL_law_706 dL_law_708 dL_law_709 dL_law_710 dL_law_715 (fun H3 locs3 ls3 hG3 hL3 hl3 => W.widen (k := cells + 120) (n := slots + 5040) (by omega) (by omega) (kk ad' f' s3 r3 _ _ H3 locs3 ls3 ha hG3 hL3 J1 (by rw [← e0, ← e9]; exact hl3)))
set_option maxHeartbeats 4000000 in
theorem lb_call (hst : l.stackTraces = false) (C : lC p m c s b L xs D cI cZ cB cO cR cJ K) (hG : gW D s.heap (lvC lL0 sC) ad (lW o ad K.2.2.1 cI cZ cB cO cR cJ f sM rM sC rC) H) (hL : gL s.heap locs) (J : jI sC rC sM rM) {a1 a2 a3 i : Nat} (h1 : a1 = ad 100) (h2 : a2 = ad 0) (h3 : a3 = ad 99) (hi : i + 8 ≤ L) (hl : lv_has ls 7 [(0, .ref b), (1, .ref a1), (2, .ref a2), (3, .ref a3), (4, .int (nI i))]) (hcs : cells + 120 ≤ 601024 ∧ slots + 5040 ≤ 7293034)
    (kk : ∀ (ad' : Nat → Nat) (f' : Nat → Int64) (sC' : Nat → Int32) (rC' : Nat → Nat → Int32) (sM' : Nat → Int32) (rM' : Nat → Nat → Int32) (H1 : Heap) (locs1 : List Loc) (ls1 : Array Slot), (∀ j, lvA lL0 j → ad' j = ad j) → gW D s.heap (lvC lL0 sC') ad' (lW o ad' K.2.2.1 cI cZ cB cO cR cJ f' sM' rM' sC' rC') H1 → gL s.heap locs1 → jI sC' rC' sM' rM' → lv_has ls1 7 [(0, .ref b), (1, .ref a1), (2, .ref a2), (3, .ref a3), (4, .int (nI i))] → W p l e room_1 s m #[.ref b] below meth c H1 locs1 (cells + 120) (slots + 5040) Q (F0 m 1362 ls1 [])) : W p l e room_1 s m #[.ref b] below meth c H locs cells slots Q (F0 m 718 ls []) := by
  subst h1 h2 h3
  have hx := C.1.1.1
  have hb := C.1.1.2.1
  refine lv_aload_n hx hb dL_law_718 rfl (lv_at hl 1 rfl) ?_
  refine lv_aload_n hx hb dL_law_719 rfl (lv_at hl 3 rfl) ?_
  obtain ⟨v, s1, r1, G, HM⟩ := hh_call (l := l) (D := D) (Hb := s.heap) (K := K) (ad := ad) (cI := cI) (cZ := cZ) (cB := cB) (cO := cO) (cR := cR) hst J (lW_out (o := o) (ad := ad) (cI := cI) (cZ := cZ) (cJ := cJ) (f := f) (sM := sM) (rM := rM)) 
  refine l_help (n := 2) (As := [.ref (ad 100), .ref (ad 99)]) (rest := []) C.1 C.2.1 hG hL HM gL_law_L_call rfl ⟨rfl, rfl⟩ (by decide +kernel) ⟨by decide, by decide⟩ rfl hl.1 rfl (Nat.le_of_ble_eq_true rfl) dL_law_720 ⟨by { show cells + 2 ≤ 601024; omega }, by { show slots + 84 ≤ 7293034; omega }⟩ (fun ad' f' H1 locs1 s3 r3 ha hL1 hG1 hq => ?_)
  have J1 := G.J hq
  have V1 := G.V hq (by decide)
  have e5 := G.2.1
  have e0 := ha 0 (Or.inl ⟨by decide, Or.inl rfl⟩)
  have e1 := ha 100 (Or.inr rfl)
  have e9 := ha 99 (Or.inl ⟨by decide, lL0_99⟩)
  rw [← e0, ← e9] at hl
  clear hq HM
  generalize hC [eA, eU] (xCl sC rC) = k5 at V1 e5 ⊢
  refine lv_istore (lv' := [(5, .int k5), (0, .ref b), (1, .ref (ad 100)), (2, .ref (ad' 0)), (3, .ref (ad' 99)), (4, .int (nI i))]) hx hb dL_law_723 hl (by decide) rfl (fun ls1 hl => ?_)
  refine lv_aload_n hx hb dL_law_725 rfl (lv_at hl 3 rfl) ?_
  have hG := hG1
  refine l_mod (n := 0) (As := []) (rest := []) C.1 hG hL1 (c_X10_call lM_lv  sM rM J.N.2.2.2.2.2.2.2.1 J.N.2.2.2.2.2.2.2.2 J.N.2.2.2.2.1.1 J.N.2.2.2.2.1.2) gL_law_X10_call rfl (by decide +kernel) ⟨by decide, by decide⟩ rfl hl.1 rfl (Nat.le_of_ble_eq_true rfl) dL_law_726 ⟨by { show cells + 2 ≤ 601024; omega }, by { show slots + 84 ≤ 7293034; omega }⟩ (fun H2 locs2 hG2 hL2 => ?_)
  exact l_tailV (pc := 729) C hG2 hL2 hl e5 V1 ⟨by omega, by omega⟩ (by decide) dL_law_729 dL_law_731 dL_law_732 dL_law_735 dL_law_737 dL_law_742 dL_law_744 dL_law_747 dL_law_748 dL_law_749 dL_law_750 dL_law_752 dL_law_753 dL_law_754 dL_law_759 (fun H3 locs3 ls3 hG3 hL3 hl3 => W.widen (k := cells + 120) (n := slots + 5040) (by omega) (by omega) (kk ad' f' s3 r3 _ _ H3 locs3 ls3 ha hG3 hL3 J1 (by rw [← e0, ← e9]; exact hl3)))
set_option maxHeartbeats 4000000 in
theorem lb_rota (hst : l.stackTraces = false) (C : lC p m c s b L xs D cI cZ cB cO cR cJ K) (hG : gW D s.heap (lvC lL0 sC) ad (lW o ad K.2.2.1 cI cZ cB cO cR cJ f sM rM sC rC) H) (hL : gL s.heap locs) (J : jI sC rC sM rM) {a1 a2 a3 i : Nat} (h1 : a1 = ad 100) (h2 : a2 = ad 0) (h3 : a3 = ad 99) (hi : i + 8 ≤ L) (hl : lv_has ls 7 [(0, .ref b), (1, .ref a1), (2, .ref a2), (3, .ref a3), (4, .int (nI i))]) (hcs : cells + 120 ≤ 601024 ∧ slots + 5040 ≤ 7293034)
    (kk : ∀ (ad' : Nat → Nat) (f' : Nat → Int64) (sC' : Nat → Int32) (rC' : Nat → Nat → Int32) (sM' : Nat → Int32) (rM' : Nat → Nat → Int32) (H1 : Heap) (locs1 : List Loc) (ls1 : Array Slot), (∀ j, lvA lL0 j → ad' j = ad j) → gW D s.heap (lvC lL0 sC') ad' (lW o ad' K.2.2.1 cI cZ cB cO cR cJ f' sM' rM' sC' rC') H1 → gL s.heap locs1 → jI sC' rC' sM' rM' → lv_has ls1 7 [(0, .ref b), (1, .ref a1), (2, .ref a2), (3, .ref a3), (4, .int (nI i))] → W p l e room_1 s m #[.ref b] below meth c H1 locs1 (cells + 120) (slots + 5040) Q (F0 m 1362 ls1 [])) : W p l e room_1 s m #[.ref b] below meth c H locs cells slots Q (F0 m 762 ls []) := by
  subst h1 h2 h3
  have hx := C.1.1.1
  have hb := C.1.1.2.1
  refine lv_aload_n hx hb dL_law_762 rfl (lv_at hl 1 rfl) ?_
  refine lv_aload_n hx hb dL_law_763 rfl (lv_at hl 3 rfl) ?_
  obtain ⟨v, s1, r1, G, HM⟩ := hh_rota (l := l) (D := D) (Hb := s.heap) (K := K) (ad := ad) (cI := cI) (cZ := cZ) (cB := cB) (cO := cO) (cR := cR) hst J (lW_out (o := o) (ad := ad) (cI := cI) (cZ := cZ) (cJ := cJ) (f := f) (sM := sM) (rM := rM)) 
  refine l_help (n := 2) (As := [.ref (ad 100), .ref (ad 99)]) (rest := []) C.1 C.2.1 hG hL HM gL_law_L_rota rfl ⟨rfl, rfl⟩ (by decide +kernel) ⟨by decide, by decide⟩ rfl hl.1 rfl (Nat.le_of_ble_eq_true rfl) dL_law_764 ⟨by { show cells + 1 ≤ 601024; omega }, by { show slots + 6 ≤ 7293034; omega }⟩ (fun ad' f' H1 locs1 s3 r3 ha hL1 hG1 hq => ?_)
  have J1 := G.J hq
  have V1 := G.V hq (by decide)
  have e5 := G.2.1
  have e0 := ha 0 (Or.inl ⟨by decide, Or.inl rfl⟩)
  have e1 := ha 100 (Or.inr rfl)
  have e9 := ha 99 (Or.inl ⟨by decide, lL0_99⟩)
  rw [← e0, ← e9] at hl
  clear hq HM
  generalize hC [eA] (xRo sC rC) = k5 at V1 e5 ⊢
  refine lv_istore (lv' := [(5, .int k5), (0, .ref b), (1, .ref (ad 100)), (2, .ref (ad' 0)), (3, .ref (ad' 99)), (4, .int (nI i))]) hx hb dL_law_767 hl (by decide) rfl (fun ls1 hl => ?_)
  refine lv_aload_n hx hb dL_law_769 rfl (lv_at hl 3 rfl) ?_
  have hG := hG1
  refine l_mod (n := 0) (As := []) (rest := []) C.1 hG hL1 (c_X10_rota lM_lv  sM rM (sM 26).toNatClampNeg J.N.2.2.2.2.2.2.2.1 J.N.2.2.2.2.2.2.2.2 (t_ix J.N.2.2.2.1.1).symm (t_ixl J.N.2.2.2.1.1 J.N.2.2.2.1.2)) gL_law_X10_rota rfl (by decide +kernel) ⟨by decide, by decide⟩ rfl hl.1 rfl (Nat.le_of_ble_eq_true rfl) dL_law_770 ⟨by { show cells + 1 ≤ 601024; omega }, by { show slots + 6 ≤ 7293034; omega }⟩ (fun H2 locs2 hG2 hL2 => ?_)
  exact l_tailV (pc := 773) C hG2 hL2 hl e5 V1 ⟨by omega, by omega⟩ (by decide) dL_law_773 dL_law_775 dL_law_776 dL_law_779 dL_law_781 dL_law_786 dL_law_788 dL_law_791 dL_law_792 dL_law_793 dL_law_794 dL_law_796 dL_law_797 dL_law_798 dL_law_803 (fun H3 locs3 ls3 hG3 hL3 hl3 => W.widen (k := cells + 120) (n := slots + 5040) (by omega) (by omega) (kk ad' f' s3 r3 _ _ H3 locs3 ls3 ha hG3 hL3 J1 (by rw [← e0, ← e9]; exact hl3)))
set_option maxHeartbeats 4000000 in
theorem lb_fault (hst : l.stackTraces = false) (C : lC p m c s b L xs D cI cZ cB cO cR cJ K) (hG : gW D s.heap (lvC lL0 sC) ad (lW o ad K.2.2.1 cI cZ cB cO cR cJ f sM rM sC rC) H) (hL : gL s.heap locs) (J : jI sC rC sM rM) {a1 a2 a3 i : Nat} (h1 : a1 = ad 100) (h2 : a2 = ad 0) (h3 : a3 = ad 99) (hi : i + 8 ≤ L) (hl : lv_has ls 7 [(0, .ref b), (1, .ref a1), (2, .ref a2), (3, .ref a3), (4, .int (nI i))]) (hcs : cells + 120 ≤ 601024 ∧ slots + 5040 ≤ 7293034)
    (kk : ∀ (ad' : Nat → Nat) (f' : Nat → Int64) (sC' : Nat → Int32) (rC' : Nat → Nat → Int32) (sM' : Nat → Int32) (rM' : Nat → Nat → Int32) (H1 : Heap) (locs1 : List Loc) (ls1 : Array Slot), (∀ j, lvA lL0 j → ad' j = ad j) → gW D s.heap (lvC lL0 sC') ad' (lW o ad' K.2.2.1 cI cZ cB cO cR cJ f' sM' rM' sC' rC') H1 → gL s.heap locs1 → jI sC' rC' sM' rM' → lv_has ls1 7 [(0, .ref b), (1, .ref a1), (2, .ref a2), (3, .ref a3), (4, .int (nI i))] → W p l e room_1 s m #[.ref b] below meth c H1 locs1 (cells + 120) (slots + 5040) Q (F0 m 1362 ls1 [])) : W p l e room_1 s m #[.ref b] below meth c H locs cells slots Q (F0 m 806 ls []) := by
  subst h1 h2 h3
  have hx := C.1.1.1
  have hb := C.1.1.2.1
  refine lv_aload_n hx hb dL_law_806 rfl (lv_at hl 1 rfl) ?_
  have G := j_fault J
  refine k_callV (n := 0) (As := []) (rest := []) (k := 100) (ci := 10) C.1 hG hL (lvC_L.f (by decide) (by decide)) rfl rfl (c_X9_fault sC rC lvC_L  ) gL_law_X9_fault rfl ⟨rfl, rfl⟩ (by decide +kernel) ⟨by decide, by decide⟩ rfl hl.1 rfl (Nat.le_of_ble_eq_true rfl) dL_law_807 ⟨by { show cells + 0 ≤ 601024; omega }, by { show slots + 0 ≤ 7293034; omega }⟩ rfl (fun H1 locs1 hG1 hL1 => ?_)
  have hG : gW D s.heap (lvC lL0 (sC)) ad (lW o ad K.2.2.1 cI cZ cB cO cR cJ f sM rM (sC) (rC)) H1 := hG1
  refine lv_aload_n hx hb dL_law_810 rfl (lv_at hl 2 rfl) ?_
  refine l_mod (n := 0) (As := []) (rest := [.int (sC 64)]) C.1 hG hL1 (c_X10_fault lM_lv  sM rM ) gL_law_X10_fault rfl (by decide +kernel) ⟨by decide, by decide⟩ rfl hl.1 rfl (Nat.le_of_ble_eq_true rfl) dL_law_811 ⟨by { show cells + 0 ≤ 601024; omega }, by { show slots + 0 ≤ 7293034; omega }⟩ (fun H2 locs2 hG2 hL2 => ?_)
  refine lv_icmp_eq (tgt := 1362) hx hb dL_law_814 (by decide) (fun _ => ?_) (fun z => absurd G.1 z)
  exact W.widen (k := cells + 120) (n := slots + 5040) (by omega) (by omega) (kk ad f _ _ _ _ H2 locs2 ls (fun _ _ => rfl) hG2 hL2 G.2 hl)
set_option maxHeartbeats 4000000 in
theorem lb_send (hst : l.stackTraces = false) (C : lC p m c s b L xs D cI cZ cB cO cR cJ K) (hG : gW D s.heap (lvC lL0 sC) ad (lW o ad K.2.2.1 cI cZ cB cO cR cJ f sM rM sC rC) H) (hL : gL s.heap locs) (J : jI sC rC sM rM) {a1 a2 a3 i : Nat} (h1 : a1 = ad 100) (h2 : a2 = ad 0) (h3 : a3 = ad 99) (hi : i + 8 ≤ L) (hl : lv_has ls 7 [(0, .ref b), (1, .ref a1), (2, .ref a2), (3, .ref a3), (4, .int (nI i))]) (hcs : cells + 120 ≤ 601024 ∧ slots + 5040 ≤ 7293034)
    (kk : ∀ (ad' : Nat → Nat) (f' : Nat → Int64) (sC' : Nat → Int32) (rC' : Nat → Nat → Int32) (sM' : Nat → Int32) (rM' : Nat → Nat → Int32) (H1 : Heap) (locs1 : List Loc) (ls1 : Array Slot), (∀ j, lvA lL0 j → ad' j = ad j) → gW D s.heap (lvC lL0 sC') ad' (lW o ad' K.2.2.1 cI cZ cB cO cR cJ f' sM' rM' sC' rC') H1 → gL s.heap locs1 → jI sC' rC' sM' rM' → lv_has ls1 7 [(0, .ref b), (1, .ref a1), (2, .ref a2), (3, .ref a3), (4, .int (nI i))] → W p l e room_1 s m #[.ref b] below meth c H1 locs1 (cells + 120) (slots + 5040) Q (F0 m 1362 ls1 [])) : W p l e room_1 s m #[.ref b] below meth c H locs cells slots Q (F0 m 819 ls []) := by
  subst h1 h2 h3
  have hx := C.1.1.1
  have hb := C.1.1.2.1
  refine lv_aload_n hx hb dL_law_819 rfl (lv_at hl 1 rfl) ?_
  refine l_argI C hG hl (k0 := 0) (k4 := 4) rfl rfl 1 (kv := 1) (by decide) (by decide) (by omega) dL_law_820 dL_law_821 dL_law_823 dL_law_824 dL_law_825 ?_
  refine lv_aload_n hx hb dL_law_826 rfl (lv_at hl 3 rfl) ?_
  obtain ⟨v, s1, r1, G, HM⟩ := hh_send (l := l) (D := D) (Hb := s.heap) (K := K) (ad := ad) (cI := cI) (cZ := cZ) (cB := cB) (cO := cO) (cR := cR) hst J (lW_out (o := o) (ad := ad) (cI := cI) (cZ := cZ) (cJ := cJ) (f := f) (sM := sM) (rM := rM)) (xs (i + 1))
  refine l_help (n := 3) (As := [.ref (ad 100), .int (xs (i + 1)), .ref (ad 99)]) (rest := []) C.1 C.2.1 hG hL HM gL_law_L_send rfl ⟨rfl, rfl⟩ (by decide +kernel) ⟨by decide, by decide⟩ rfl hl.1 rfl (Nat.le_of_ble_eq_true rfl) dL_law_827 ⟨by { show cells + 2 ≤ 601024; omega }, by { show slots + 12 ≤ 7293034; omega }⟩ (fun ad' f' H1 locs1 s3 r3 ha hL1 hG1 hq => ?_)
  have J1 := G.J hq
  have V1 := G.V hq (by decide)
  have e5 := G.2.1
  have e0 := ha 0 (Or.inl ⟨by decide, Or.inl rfl⟩)
  have e1 := ha 100 (Or.inr rfl)
  have e9 := ha 99 (Or.inl ⟨by decide, lL0_99⟩)
  rw [← e0, ← e9] at hl
  clear hq HM
  generalize hC [eI, eS] (xSd (xs (i + 1)) sC rC) = k5 at V1 e5 ⊢
  refine lv_istore (lv' := [(5, .int k5), (0, .ref b), (1, .ref (ad 100)), (2, .ref (ad' 0)), (3, .ref (ad' 99)), (4, .int (nI i))]) hx hb dL_law_830 hl (by decide) rfl (fun ls1 hl => ?_)
  refine lv_aload_n hx hb dL_law_832 rfl (lv_at hl 3 rfl) ?_
  have hG := hG1
  refine l_argI C hG hl (k0 := 1) (k4 := 5) rfl rfl 1 (kv := 1) (by decide) (by decide) (by omega) dL_law_833 dL_law_834 dL_law_836 dL_law_837 dL_law_838 ?_
  refine l_mod (n := 1) (As := [.int (xs (i + 1))]) (rest := []) C.1 hG hL1 (c_X10_send lM_lv (xs (i + 1)) sM rM J.N.2.2.2.2.1.2 J.N.2.2.2.2.2.1.1 J.N.2.2.2.2.2.1.2 J.N.2.2.2.1.2 J.tn J.pc) gL_law_X10_send rfl (by decide +kernel) ⟨by decide, by decide⟩ rfl hl.1 rfl (Nat.le_of_ble_eq_true rfl) dL_law_839 ⟨by { show cells + 2 ≤ 601024; omega }, by { show slots + 12 ≤ 7293034; omega }⟩ (fun H2 locs2 hG2 hL2 => ?_)
  exact l_tailV (pc := 842) C hG2 hL2 hl e5 V1 ⟨by omega, by omega⟩ (by decide) dL_law_842 dL_law_844 dL_law_845 dL_law_848 dL_law_850 dL_law_855 dL_law_857 dL_law_860 dL_law_861 dL_law_862 dL_law_863 dL_law_865 dL_law_866 dL_law_867 dL_law_872 (fun H3 locs3 ls3 hG3 hL3 hl3 => W.widen (k := cells + 120) (n := slots + 5040) (by omega) (by omega) (kk ad' f' s3 r3 _ _ H3 locs3 ls3 ha hG3 hL3 J1 (by rw [← e0, ← e9]; exact hl3)))
set_option maxHeartbeats 4000000 in
theorem lb_asked (hst : l.stackTraces = false) (C : lC p m c s b L xs D cI cZ cB cO cR cJ K) (hG : gW D s.heap (lvC lL0 sC) ad (lW o ad K.2.2.1 cI cZ cB cO cR cJ f sM rM sC rC) H) (hL : gL s.heap locs) (J : jI sC rC sM rM) {a1 a2 a3 i : Nat} (h1 : a1 = ad 100) (h2 : a2 = ad 0) (h3 : a3 = ad 99) (hi : i + 8 ≤ L) (hl : lv_has ls 7 [(0, .ref b), (1, .ref a1), (2, .ref a2), (3, .ref a3), (4, .int (nI i))]) (hcs : cells + 120 ≤ 601024 ∧ slots + 5040 ≤ 7293034)
    (kk : ∀ (ad' : Nat → Nat) (f' : Nat → Int64) (sC' : Nat → Int32) (rC' : Nat → Nat → Int32) (sM' : Nat → Int32) (rM' : Nat → Nat → Int32) (H1 : Heap) (locs1 : List Loc) (ls1 : Array Slot), (∀ j, lvA lL0 j → ad' j = ad j) → gW D s.heap (lvC lL0 sC') ad' (lW o ad' K.2.2.1 cI cZ cB cO cR cJ f' sM' rM' sC' rC') H1 → gL s.heap locs1 → jI sC' rC' sM' rM' → lv_has ls1 7 [(0, .ref b), (1, .ref a1), (2, .ref a2), (3, .ref a3), (4, .int (nI i))] → W p l e room_1 s m #[.ref b] below meth c H1 locs1 (cells + 120) (slots + 5040) Q (F0 m 1362 ls1 [])) : W p l e room_1 s m #[.ref b] below meth c H locs cells slots Q (F0 m 875 ls []) := by
  subst h1 h2 h3
  have hx := C.1.1.1
  have hb := C.1.1.2.1
  refine lv_aload_n hx hb dL_law_875 rfl (lv_at hl 1 rfl) ?_
  refine l_argI C hG hl (k0 := 0) (k4 := 4) rfl rfl 1 (kv := 1) (by decide) (by decide) (by omega) dL_law_876 dL_law_877 dL_law_879 dL_law_880 dL_law_881 ?_
  refine l_argI C hG hl (k0 := 0) (k4 := 4) rfl rfl 2 (kv := 2) (by decide) (by decide) (by omega) dL_law_882 dL_law_883 dL_law_885 dL_law_886 dL_law_887 ?_
  have G := j_asked J (xs (i + 1)) (xs (i + 2))
  refine k_callV (n := 2) (As := [.int (xs (i + 1)), .int (xs (i + 2))]) (rest := []) (k := 100) (ci := 10) C.1 hG hL (lvC_L.f (by decide) (by decide)) rfl rfl (c_X9_asked sC rC lvC_L (xs (i + 1)) (xs (i + 2)) J.n57.2) gL_law_X9_asked rfl ⟨rfl, rfl⟩ (by decide +kernel) ⟨by decide, by decide⟩ rfl hl.1 rfl (Nat.le_of_ble_eq_true rfl) dL_law_888 ⟨by { show cells + 0 ≤ 601024; omega }, by { show slots + 0 ≤ 7293034; omega }⟩ rfl (fun H1 locs1 hG1 hL1 => ?_)
  have hG : gW D s.heap (lvC lL0 (sC)) ad (lW o ad K.2.2.1 cI cZ cB cO cR cJ f sM rM (sC) (rC)) H1 := hG1
  refine lv_aload_n hx hb dL_law_891 rfl (lv_at hl 2 rfl) ?_
  refine l_argI C hG hl (k0 := 0) (k4 := 4) rfl rfl 1 (kv := 1) (by decide) (by decide) (by omega) dL_law_892 dL_law_893 dL_law_895 dL_law_896 dL_law_897 ?_
  refine l_argI C hG hl (k0 := 0) (k4 := 4) rfl rfl 2 (kv := 2) (by decide) (by decide) (by omega) dL_law_898 dL_law_899 dL_law_901 dL_law_902 dL_law_903 ?_
  refine l_mod (n := 2) (As := [.int (xs (i + 1)), .int (xs (i + 2))]) (rest := [.int (vAs (xs (i + 1)) (xs (i + 2)) sC rC)]) C.1 hG hL1 (c_X10_asked lM_lv (xs (i + 1)) (xs (i + 2)) sM rM J.N.2.2.2.2.2.2.1.2) gL_law_X10_asked rfl (by decide +kernel) ⟨by decide, by decide⟩ rfl hl.1 rfl (Nat.le_of_ble_eq_true rfl) dL_law_904 ⟨by { show cells + 0 ≤ 601024; omega }, by { show slots + 0 ≤ 7293034; omega }⟩ (fun H2 locs2 hG2 hL2 => ?_)
  refine lv_icmp_eq (tgt := 1362) hx hb dL_law_907 (by decide) (fun _ => ?_) (fun z => absurd G.1 z)
  exact W.widen (k := cells + 120) (n := slots + 5040) (by omega) (by omega) (kk ad f _ _ _ _ H2 locs2 ls (fun _ _ => rfl) hG2 hL2 G.2 hl)
set_option maxHeartbeats 4000000 in
theorem lb_left (hst : l.stackTraces = false) (C : lC p m c s b L xs D cI cZ cB cO cR cJ K) (hG : gW D s.heap (lvC lL0 sC) ad (lW o ad K.2.2.1 cI cZ cB cO cR cJ f sM rM sC rC) H) (hL : gL s.heap locs) (J : jI sC rC sM rM) {a1 a2 a3 i : Nat} (h1 : a1 = ad 100) (h2 : a2 = ad 0) (h3 : a3 = ad 99) (hi : i + 8 ≤ L) (hl : lv_has ls 7 [(0, .ref b), (1, .ref a1), (2, .ref a2), (3, .ref a3), (4, .int (nI i))]) (hcs : cells + 120 ≤ 601024 ∧ slots + 5040 ≤ 7293034)
    (kk : ∀ (ad' : Nat → Nat) (f' : Nat → Int64) (sC' : Nat → Int32) (rC' : Nat → Nat → Int32) (sM' : Nat → Int32) (rM' : Nat → Nat → Int32) (H1 : Heap) (locs1 : List Loc) (ls1 : Array Slot), (∀ j, lvA lL0 j → ad' j = ad j) → gW D s.heap (lvC lL0 sC') ad' (lW o ad' K.2.2.1 cI cZ cB cO cR cJ f' sM' rM' sC' rC') H1 → gL s.heap locs1 → jI sC' rC' sM' rM' → lv_has ls1 7 [(0, .ref b), (1, .ref a1), (2, .ref a2), (3, .ref a3), (4, .int (nI i))] → W p l e room_1 s m #[.ref b] below meth c H1 locs1 (cells + 120) (slots + 5040) Q (F0 m 1362 ls1 [])) : W p l e room_1 s m #[.ref b] below meth c H locs cells slots Q (F0 m 912 ls []) := by
  subst h1 h2 h3
  have hx := C.1.1.1
  have hb := C.1.1.2.1
  refine lv_aload_n hx hb dL_law_912 rfl (lv_at hl 1 rfl) ?_
  refine l_argI C hG hl (k0 := 0) (k4 := 4) rfl rfl 1 (kv := 1) (by decide) (by decide) (by omega) dL_law_913 dL_law_914 dL_law_916 dL_law_917 dL_law_918 ?_
  refine l_argI C hG hl (k0 := 0) (k4 := 4) rfl rfl 2 (kv := 2) (by decide) (by decide) (by omega) dL_law_919 dL_law_920 dL_law_922 dL_law_923 dL_law_924 ?_
  refine l_bool hx hb dL_law_925 dL_law_928 dL_law_929 dL_law_932 ?_
  refine lv_aload_n hx hb dL_law_933 rfl (lv_at hl 3 rfl) ?_
  obtain ⟨v, s1, r1, G, HM⟩ := hh_left (l := l) (D := D) (Hb := s.heap) (K := K) (ad := ad) (cI := cI) (cZ := cZ) (cB := cB) (cO := cO) (cR := cR) hst J (lW_out (o := o) (ad := ad) (cI := cI) (cZ := cZ) (cJ := cJ) (f := f) (sM := sM) (rM := rM)) (xs (i + 1)) (if xs (i + 2) = 0 then 0 else 1)
  refine l_help (n := 4) (As := [.ref (ad 100), .int (xs (i + 1)), .int (if xs (i + 2) = 0 then 0 else 1), .ref (ad 99)]) (rest := []) C.1 C.2.1 hG hL HM gL_law_L_left rfl ⟨rfl, rfl⟩ (by decide +kernel) ⟨by decide, by decide⟩ rfl hl.1 rfl (Nat.le_of_ble_eq_true rfl) dL_law_934 ⟨by { show cells + 1 ≤ 601024; omega }, by { show slots + 6 ≤ 7293034; omega }⟩ (fun ad' f' H1 locs1 s3 r3 ha hL1 hG1 hq => ?_)
  have J1 := G.J hq
  have V1 := G.V hq (by decide)
  have e5 := G.2.1
  have e0 := ha 0 (Or.inl ⟨by decide, Or.inl rfl⟩)
  have e1 := ha 100 (Or.inr rfl)
  have e9 := ha 99 (Or.inl ⟨by decide, lL0_99⟩)
  rw [← e0, ← e9] at hl
  clear hq HM
  generalize hC [eI] (xLe (xs (i + 1)) sC) = k5 at V1 e5 ⊢
  refine lv_istore (lv' := [(5, .int k5), (0, .ref b), (1, .ref (ad 100)), (2, .ref (ad' 0)), (3, .ref (ad' 99)), (4, .int (nI i))]) hx hb dL_law_937 hl (by decide) rfl (fun ls1 hl => ?_)
  refine lv_aload_n hx hb dL_law_939 rfl (lv_at hl 3 rfl) ?_
  have hG := hG1
  refine l_argI C hG hl (k0 := 1) (k4 := 5) rfl rfl 1 (kv := 1) (by decide) (by decide) (by omega) dL_law_940 dL_law_941 dL_law_943 dL_law_944 dL_law_945 ?_
  refine l_argI C hG hl (k0 := 1) (k4 := 5) rfl rfl 2 (kv := 2) (by decide) (by decide) (by omega) dL_law_946 dL_law_947 dL_law_949 dL_law_950 dL_law_951 ?_
  refine l_bool hx hb dL_law_952 dL_law_955 dL_law_956 dL_law_959 ?_
  refine l_mod (n := 2) (As := [.int (xs (i + 1)), .int (if xs (i + 2) = 0 then 0 else 1)]) (rest := []) C.1 hG hL1 (c_X10_left lM_lv (xs (i + 1)) (if xs (i + 2) = 0 then 0 else 1) sM rM J.N.2.2.2.2.1.2 (fun _ h => J.m46 _ h)) gL_law_X10_left rfl (by decide +kernel) ⟨by decide, by decide⟩ rfl hl.1 rfl (Nat.le_of_ble_eq_true rfl) dL_law_960 ⟨by { show cells + 1 ≤ 601024; omega }, by { show slots + 6 ≤ 7293034; omega }⟩ (fun H2 locs2 hG2 hL2 => ?_)
  exact l_tailV (pc := 963) C hG2 hL2 hl e5 V1 ⟨by omega, by omega⟩ (by decide) dL_law_963 dL_law_965 dL_law_966 dL_law_969 dL_law_971 dL_law_976 dL_law_978 dL_law_981 dL_law_982 dL_law_983 dL_law_984 dL_law_986 dL_law_987 dL_law_988 dL_law_993 (fun H3 locs3 ls3 hG3 hL3 hl3 => W.widen (k := cells + 120) (n := slots + 5040) (by omega) (by omega) (kk ad' f' s3 r3 _ _ H3 locs3 ls3 ha hG3 hL3 J1 (by rw [← e0, ← e9]; exact hl3)))
set_option maxHeartbeats 4000000 in
theorem lb_most (hst : l.stackTraces = false) (C : lC p m c s b L xs D cI cZ cB cO cR cJ K) (hG : gW D s.heap (lvC lL0 sC) ad (lW o ad K.2.2.1 cI cZ cB cO cR cJ f sM rM sC rC) H) (hL : gL s.heap locs) (J : jI sC rC sM rM) {a1 a2 a3 i : Nat} (h1 : a1 = ad 100) (h2 : a2 = ad 0) (h3 : a3 = ad 99) (hi : i + 8 ≤ L) (hl : lv_has ls 7 [(0, .ref b), (1, .ref a1), (2, .ref a2), (3, .ref a3), (4, .int (nI i))]) (hcs : cells + 120 ≤ 601024 ∧ slots + 5040 ≤ 7293034)
    (kk : ∀ (ad' : Nat → Nat) (f' : Nat → Int64) (sC' : Nat → Int32) (rC' : Nat → Nat → Int32) (sM' : Nat → Int32) (rM' : Nat → Nat → Int32) (H1 : Heap) (locs1 : List Loc) (ls1 : Array Slot), (∀ j, lvA lL0 j → ad' j = ad j) → gW D s.heap (lvC lL0 sC') ad' (lW o ad' K.2.2.1 cI cZ cB cO cR cJ f' sM' rM' sC' rC') H1 → gL s.heap locs1 → jI sC' rC' sM' rM' → lv_has ls1 7 [(0, .ref b), (1, .ref a1), (2, .ref a2), (3, .ref a3), (4, .int (nI i))] → W p l e room_1 s m #[.ref b] below meth c H1 locs1 (cells + 120) (slots + 5040) Q (F0 m 1362 ls1 [])) : W p l e room_1 s m #[.ref b] below meth c H locs cells slots Q (F0 m 996 ls []) := by
  subst h1 h2 h3
  have hx := C.1.1.1
  have hb := C.1.1.2.1
  refine lv_aload_n hx hb dL_law_996 rfl (lv_at hl 1 rfl) ?_
  have G := j_most J
  refine k_callV (n := 0) (As := []) (rest := []) (k := 100) (ci := 10) C.1 hG hL (lvC_L.f (by decide) (by decide)) rfl rfl (c_X9_most sC rC lvC_L  J.n39.1 J.n39.2 J.n26.1 J.n26.2 (fun j _ h => J.r46 j h) (fun i j _ _ => J.st i j)) gL_law_X9_most rfl ⟨rfl, rfl⟩ (by decide +kernel) ⟨by decide, by decide⟩ rfl hl.1 rfl (Nat.le_of_ble_eq_true rfl) dL_law_997 ⟨by { show cells + 0 ≤ 601024; omega }, by { show slots + 0 ≤ 7293034; omega }⟩ rfl (fun H1 locs1 hG1 hL1 => ?_)
  have hG : gW D s.heap (lvC lL0 (sC)) ad (lW o ad K.2.2.1 cI cZ cB cO cR cJ f sM rM (sC) (kmR sC rC)) H1 := hG1
  refine lv_aload_n hx hb dL_law_1000 rfl (lv_at hl 2 rfl) ?_
  refine l_mod (n := 0) (As := []) (rest := [.int (kmV sC rC)]) C.1 hG hL1 (c_X10_most lM_lv  sM rM J.N.2.2.2.2.1.1 J.N.2.2.2.2.1.2 J.N.2.2.2.1.1 J.N.2.2.2.1.2 J.pc (fun q _ h => J.m46 q h)) gL_law_X10_most rfl (by decide +kernel) ⟨by decide, by decide⟩ rfl hl.1 rfl (Nat.le_of_ble_eq_true rfl) dL_law_1001 ⟨by { show cells + 0 ≤ 601024; omega }, by { show slots + 0 ≤ 7293034; omega }⟩ (fun H2 locs2 hG2 hL2 => ?_)
  refine lv_icmp_eq (tgt := 1362) hx hb dL_law_1004 (by decide) (fun _ => ?_) (fun z => absurd G.1 z)
  exact W.widen (k := cells + 120) (n := slots + 5040) (by omega) (by omega) (kk ad f _ _ _ _ H2 locs2 ls (fun _ _ => rfl) hG2 hL2 G.2 hl)
set_option maxHeartbeats 4000000 in
theorem lb_origin (hst : l.stackTraces = false) (C : lC p m c s b L xs D cI cZ cB cO cR cJ K) (hG : gW D s.heap (lvC lL0 sC) ad (lW o ad K.2.2.1 cI cZ cB cO cR cJ f sM rM sC rC) H) (hL : gL s.heap locs) (J : jI sC rC sM rM) {a1 a2 a3 i : Nat} (h1 : a1 = ad 100) (h2 : a2 = ad 0) (h3 : a3 = ad 99) (hi : i + 8 ≤ L) (hl : lv_has ls 7 [(0, .ref b), (1, .ref a1), (2, .ref a2), (3, .ref a3), (4, .int (nI i))]) (hcs : cells + 120 ≤ 601024 ∧ slots + 5040 ≤ 7293034)
    (kk : ∀ (ad' : Nat → Nat) (f' : Nat → Int64) (sC' : Nat → Int32) (rC' : Nat → Nat → Int32) (sM' : Nat → Int32) (rM' : Nat → Nat → Int32) (H1 : Heap) (locs1 : List Loc) (ls1 : Array Slot), (∀ j, lvA lL0 j → ad' j = ad j) → gW D s.heap (lvC lL0 sC') ad' (lW o ad' K.2.2.1 cI cZ cB cO cR cJ f' sM' rM' sC' rC') H1 → gL s.heap locs1 → jI sC' rC' sM' rM' → lv_has ls1 7 [(0, .ref b), (1, .ref a1), (2, .ref a2), (3, .ref a3), (4, .int (nI i))] → W p l e room_1 s m #[.ref b] below meth c H1 locs1 (cells + 120) (slots + 5040) Q (F0 m 1362 ls1 [])) : W p l e room_1 s m #[.ref b] below meth c H locs cells slots Q (F0 m 1009 ls []) := by
  subst h1 h2 h3
  have hx := C.1.1.1
  have hb := C.1.1.2.1
  refine lv_aload_n hx hb dL_law_1009 rfl (lv_at hl 1 rfl) ?_
  refine l_argI C hG hl (k0 := 0) (k4 := 4) rfl rfl 1 (kv := 1) (by decide) (by decide) (by omega) dL_law_1010 dL_law_1011 dL_law_1013 dL_law_1014 dL_law_1015 ?_
  refine lv_aload_n hx hb dL_law_1016 rfl (lv_at hl 3 rfl) ?_
  obtain ⟨v, s1, r1, G, HM⟩ := hh_origin (l := l) (D := D) (Hb := s.heap) (K := K) (ad := ad) (cI := cI) (cZ := cZ) (cB := cB) (cO := cO) (cR := cR) hst J (lW_out (o := o) (ad := ad) (cI := cI) (cZ := cZ) (cJ := cJ) (f := f) (sM := sM) (rM := rM)) (xs (i + 1))
  refine l_help (n := 3) (As := [.ref (ad 100), .int (xs (i + 1)), .ref (ad 99)]) (rest := []) C.1 C.2.1 hG hL HM gL_law_L_origin rfl ⟨rfl, rfl⟩ (by decide +kernel) ⟨by decide, by decide⟩ rfl hl.1 rfl (Nat.le_of_ble_eq_true rfl) dL_law_1017 ⟨by { show cells + 2 ≤ 601024; omega }, by { show slots + 12 ≤ 7293034; omega }⟩ (fun ad' f' H1 locs1 s3 r3 ha hL1 hG1 hq => ?_)
  have J1 := G.J hq
  have V1 := G.V hq (by decide)
  have e5 := G.2.1
  have e0 := ha 0 (Or.inl ⟨by decide, Or.inl rfl⟩)
  have e1 := ha 100 (Or.inr rfl)
  have e9 := ha 99 (Or.inl ⟨by decide, lL0_99⟩)
  rw [← e0, ← e9] at hl
  clear hq HM
  generalize hC [eI, eS] (xOg (xs (i + 1)) sC rC) = k5 at V1 e5 ⊢
  refine lv_istore (lv' := [(5, .int k5), (0, .ref b), (1, .ref (ad 100)), (2, .ref (ad' 0)), (3, .ref (ad' 99)), (4, .int (nI i))]) hx hb dL_law_1020 hl (by decide) rfl (fun ls1 hl => ?_)
  refine lv_aload_n hx hb dL_law_1022 rfl (lv_at hl 3 rfl) ?_
  have hG := hG1
  refine l_argI C hG hl (k0 := 1) (k4 := 5) rfl rfl 1 (kv := 1) (by decide) (by decide) (by omega) dL_law_1023 dL_law_1024 dL_law_1026 dL_law_1027 dL_law_1028 ?_
  refine l_mod (n := 1) (As := [.int (xs (i + 1))]) (rest := []) C.1 hG hL1 (c_X10_origin lM_lv (xs (i + 1)) sM rM J.N.2.1.1 J.N.2.1.2 J.N.2.2.1.2 (fun _ h => J.om h)) gL_law_X10_origin rfl (by decide +kernel) ⟨by decide, by decide⟩ rfl hl.1 rfl (Nat.le_of_ble_eq_true rfl) dL_law_1029 ⟨by { show cells + 2 ≤ 601024; omega }, by { show slots + 12 ≤ 7293034; omega }⟩ (fun H2 locs2 hG2 hL2 => ?_)
  exact l_tailV (pc := 1032) C hG2 hL2 hl e5 V1 ⟨by omega, by omega⟩ (by decide) dL_law_1032 dL_law_1034 dL_law_1035 dL_law_1038 dL_law_1040 dL_law_1045 dL_law_1047 dL_law_1050 dL_law_1051 dL_law_1052 dL_law_1053 dL_law_1055 dL_law_1056 dL_law_1057 dL_law_1062 (fun H3 locs3 ls3 hG3 hL3 hl3 => W.widen (k := cells + 120) (n := slots + 5040) (by omega) (by omega) (kk ad' f' s3 r3 _ _ H3 locs3 ls3 ha hG3 hL3 J1 (by rw [← e0, ← e9]; exact hl3)))
set_option maxHeartbeats 4000000 in
theorem lb_look (hst : l.stackTraces = false) (C : lC p m c s b L xs D cI cZ cB cO cR cJ K) (hG : gW D s.heap (lvC lL0 sC) ad (lW o ad K.2.2.1 cI cZ cB cO cR cJ f sM rM sC rC) H) (hL : gL s.heap locs) (J : jI sC rC sM rM) {a1 a2 a3 i : Nat} (h1 : a1 = ad 100) (h2 : a2 = ad 0) (h3 : a3 = ad 99) (hi : i + 8 ≤ L) (hl : lv_has ls 7 [(0, .ref b), (1, .ref a1), (2, .ref a2), (3, .ref a3), (4, .int (nI i))]) (hcs : cells + 120 ≤ 601024 ∧ slots + 5040 ≤ 7293034)
    (kk : ∀ (ad' : Nat → Nat) (f' : Nat → Int64) (sC' : Nat → Int32) (rC' : Nat → Nat → Int32) (sM' : Nat → Int32) (rM' : Nat → Nat → Int32) (H1 : Heap) (locs1 : List Loc) (ls1 : Array Slot), (∀ j, lvA lL0 j → ad' j = ad j) → gW D s.heap (lvC lL0 sC') ad' (lW o ad' K.2.2.1 cI cZ cB cO cR cJ f' sM' rM' sC' rC') H1 → gL s.heap locs1 → jI sC' rC' sM' rM' → lv_has ls1 7 [(0, .ref b), (1, .ref a1), (2, .ref a2), (3, .ref a3), (4, .int (nI i))] → W p l e room_1 s m #[.ref b] below meth c H1 locs1 (cells + 120) (slots + 5040) Q (F0 m 1362 ls1 [])) : W p l e room_1 s m #[.ref b] below meth c H locs cells slots Q (F0 m 1065 ls []) := by
  subst h1 h2 h3
  have hx := C.1.1.1
  have hb := C.1.1.2.1
  refine lv_aload_n hx hb dL_law_1065 rfl (lv_at hl 1 rfl) ?_
  refine l_argI C hG hl (k0 := 0) (k4 := 4) rfl rfl 1 (kv := 1) (by decide) (by decide) (by omega) dL_law_1066 dL_law_1067 dL_law_1069 dL_law_1070 dL_law_1071 ?_
  refine l_argI C hG hl (k0 := 0) (k4 := 4) rfl rfl 2 (kv := 2) (by decide) (by decide) (by omega) dL_law_1072 dL_law_1073 dL_law_1075 dL_law_1076 dL_law_1077 ?_
  refine lv_aload_n hx hb dL_law_1078 rfl (lv_at hl 3 rfl) ?_
  obtain ⟨v, s1, r1, G, HM⟩ := hh_look (l := l) (D := D) (Hb := s.heap) (K := K) (ad := ad) (cI := cI) (cZ := cZ) (cB := cB) (cO := cO) (cR := cR) hst J (lW_out (o := o) (ad := ad) (cI := cI) (cZ := cZ) (cJ := cJ) (f := f) (sM := sM) (rM := rM)) (xs (i + 1)) (xs (i + 2))
  refine l_help (n := 4) (As := [.ref (ad 100), .int (xs (i + 1)), .int (xs (i + 2)), .ref (ad 99)]) (rest := []) C.1 C.2.1 hG hL HM gL_law_L_look rfl ⟨rfl, rfl⟩ (by decide +kernel) ⟨by decide, by decide⟩ rfl hl.1 rfl (Nat.le_of_ble_eq_true rfl) dL_law_1079 ⟨by { show cells + 1 ≤ 601024; omega }, by { show slots + 6 ≤ 7293034; omega }⟩ (fun ad' f' H1 locs1 s3 r3 ha hL1 hG1 hq => ?_)
  have J1 := G.J hq
  have V1 := G.V hq (by decide)
  have e5 := G.2.1
  have e0 := ha 0 (Or.inl ⟨by decide, Or.inl rfl⟩)
  have e1 := ha 100 (Or.inr rfl)
  have e9 := ha 99 (Or.inl ⟨by decide, lL0_99⟩)
  rw [← e0, ← e9] at hl
  clear hq HM
  generalize hC [eI, eN] (xLk (sC 6) (xs (i + 1)) 4 (xs (i + 2))) = k5 at V1 e5 ⊢
  refine lv_istore (lv' := [(5, .int k5), (0, .ref b), (1, .ref (ad 100)), (2, .ref (ad' 0)), (3, .ref (ad' 99)), (4, .int (nI i))]) hx hb dL_law_1082 hl (by decide) rfl (fun ls1 hl => ?_)
  refine lv_aload_n hx hb dL_law_1084 rfl (lv_at hl 3 rfl) ?_
  have hG := hG1
  refine l_argI C hG hl (k0 := 1) (k4 := 5) rfl rfl 1 (kv := 1) (by decide) (by decide) (by omega) dL_law_1085 dL_law_1086 dL_law_1088 dL_law_1089 dL_law_1090 ?_
  refine l_argI C hG hl (k0 := 1) (k4 := 5) rfl rfl 2 (kv := 2) (by decide) (by decide) (by omega) dL_law_1091 dL_law_1092 dL_law_1094 dL_law_1095 dL_law_1096 ?_
  refine l_mod (n := 2) (As := [.int (xs (i + 1)), .int (xs (i + 2))]) (rest := []) C.1 hG hL1 (c_X10_look lM_lv (xs (i + 1)) (xs (i + 2)) sM rM J.N.2.1.2) gL_law_X10_look rfl (by decide +kernel) ⟨by decide, by decide⟩ rfl hl.1 rfl (Nat.le_of_ble_eq_true rfl) dL_law_1097 ⟨by { show cells + 1 ≤ 601024; omega }, by { show slots + 6 ≤ 7293034; omega }⟩ (fun H2 locs2 hG2 hL2 => ?_)
  exact l_tailV (pc := 1100) C hG2 hL2 hl e5 V1 ⟨by omega, by omega⟩ (by decide) dL_law_1100 dL_law_1102 dL_law_1103 dL_law_1106 dL_law_1108 dL_law_1113 dL_law_1115 dL_law_1118 dL_law_1119 dL_law_1120 dL_law_1121 dL_law_1123 dL_law_1124 dL_law_1125 dL_law_1130 (fun H3 locs3 ls3 hG3 hL3 hl3 => W.widen (k := cells + 120) (n := slots + 5040) (by omega) (by omega) (kk ad' f' s3 r3 _ _ H3 locs3 ls3 ha hG3 hL3 J1 (by rw [← e0, ← e9]; exact hl3)))
set_option maxHeartbeats 4000000 in
theorem lb_swarm (hst : l.stackTraces = false) (C : lC p m c s b L xs D cI cZ cB cO cR cJ K) (hG : gW D s.heap (lvC lL0 sC) ad (lW o ad K.2.2.1 cI cZ cB cO cR cJ f sM rM sC rC) H) (hL : gL s.heap locs) (J : jI sC rC sM rM) {a1 a2 a3 i : Nat} (h1 : a1 = ad 100) (h2 : a2 = ad 0) (h3 : a3 = ad 99) (hi : i + 8 ≤ L) (hl : lv_has ls 7 [(0, .ref b), (1, .ref a1), (2, .ref a2), (3, .ref a3), (4, .int (nI i))]) (hcs : cells + 120 ≤ 601024 ∧ slots + 5040 ≤ 7293034)
    (kk : ∀ (ad' : Nat → Nat) (f' : Nat → Int64) (sC' : Nat → Int32) (rC' : Nat → Nat → Int32) (sM' : Nat → Int32) (rM' : Nat → Nat → Int32) (H1 : Heap) (locs1 : List Loc) (ls1 : Array Slot), (∀ j, lvA lL0 j → ad' j = ad j) → gW D s.heap (lvC lL0 sC') ad' (lW o ad' K.2.2.1 cI cZ cB cO cR cJ f' sM' rM' sC' rC') H1 → gL s.heap locs1 → jI sC' rC' sM' rM' → lv_has ls1 7 [(0, .ref b), (1, .ref a1), (2, .ref a2), (3, .ref a3), (4, .int (nI i))] → W p l e room_1 s m #[.ref b] below meth c H1 locs1 (cells + 120) (slots + 5040) Q (F0 m 1362 ls1 [])) : W p l e room_1 s m #[.ref b] below meth c H locs cells slots Q (F0 m 1133 ls []) := by
  subst h1 h2 h3
  have hx := C.1.1.1
  have hb := C.1.1.2.1
  refine lv_aload_n hx hb dL_law_1133 rfl (lv_at hl 1 rfl) ?_
  refine l_argI C hG hl (k0 := 0) (k4 := 4) rfl rfl 1 (kv := 1) (by decide) (by decide) (by omega) dL_law_1134 dL_law_1135 dL_law_1137 dL_law_1138 dL_law_1139 ?_
  refine l_argI C hG hl (k0 := 0) (k4 := 4) rfl rfl 2 (kv := 2) (by decide) (by decide) (by omega) dL_law_1140 dL_law_1141 dL_law_1143 dL_law_1144 dL_law_1145 ?_
  refine lv_aload_n hx hb dL_law_1146 rfl (lv_at hl 3 rfl) ?_
  obtain ⟨v, s1, r1, G, HM⟩ := hh_swarm (l := l) (D := D) (Hb := s.heap) (K := K) (ad := ad) (cI := cI) (cZ := cZ) (cB := cB) (cO := cO) (cR := cR) hst J (lW_out (o := o) (ad := ad) (cI := cI) (cZ := cZ) (cJ := cJ) (f := f) (sM := sM) (rM := rM)) (xs (i + 1)) (xs (i + 2))
  refine l_help (n := 4) (As := [.ref (ad 100), .int (xs (i + 1)), .int (xs (i + 2)), .ref (ad 99)]) (rest := []) C.1 C.2.1 hG hL HM gL_law_L_swarm rfl ⟨rfl, rfl⟩ (by decide +kernel) ⟨by decide, by decide⟩ rfl hl.1 rfl (Nat.le_of_ble_eq_true rfl) dL_law_1147 ⟨by { show cells + 2 ≤ 601024; omega }, by { show slots + 12 ≤ 7293034; omega }⟩ (fun ad' f' H1 locs1 s3 r3 ha hL1 hG1 hq => ?_)
  have J1 := G.J hq
  have V1 := G.V hq (by decide)
  have e5 := G.2.1
  have e0 := ha 0 (Or.inl ⟨by decide, Or.inl rfl⟩)
  have e1 := ha 100 (Or.inr rfl)
  have e9 := ha 99 (Or.inl ⟨by decide, lL0_99⟩)
  rw [← e0, ← e9] at hl
  clear hq HM
  generalize hC [eI, eN] (xLk (sC 14) (xs (i + 1)) 9 (xs (i + 2))) = k5 at V1 e5 ⊢
  refine lv_istore (lv' := [(5, .int k5), (0, .ref b), (1, .ref (ad 100)), (2, .ref (ad' 0)), (3, .ref (ad' 99)), (4, .int (nI i))]) hx hb dL_law_1150 hl (by decide) rfl (fun ls1 hl => ?_)
  refine lv_aload_n hx hb dL_law_1152 rfl (lv_at hl 3 rfl) ?_
  have hG := hG1
  refine l_argI C hG hl (k0 := 1) (k4 := 5) rfl rfl 1 (kv := 1) (by decide) (by decide) (by omega) dL_law_1153 dL_law_1154 dL_law_1156 dL_law_1157 dL_law_1158 ?_
  refine l_argI C hG hl (k0 := 1) (k4 := 5) rfl rfl 2 (kv := 2) (by decide) (by decide) (by omega) dL_law_1159 dL_law_1160 dL_law_1162 dL_law_1163 dL_law_1164 ?_
  refine l_mod (n := 2) (As := [.int (xs (i + 1)), .int (xs (i + 2))]) (rest := []) C.1 hG hL1 (c_X10_swarm lM_lv (xs (i + 1)) (xs (i + 2)) sM rM J.N.2.2.1.2) gL_law_X10_swarm rfl (by decide +kernel) ⟨by decide, by decide⟩ rfl hl.1 rfl (Nat.le_of_ble_eq_true rfl) dL_law_1165 ⟨by { show cells + 2 ≤ 601024; omega }, by { show slots + 12 ≤ 7293034; omega }⟩ (fun H2 locs2 hG2 hL2 => ?_)
  exact l_tailV (pc := 1168) C hG2 hL2 hl e5 V1 ⟨by omega, by omega⟩ (by decide) dL_law_1168 dL_law_1170 dL_law_1171 dL_law_1174 dL_law_1176 dL_law_1181 dL_law_1183 dL_law_1186 dL_law_1187 dL_law_1188 dL_law_1189 dL_law_1191 dL_law_1192 dL_law_1193 dL_law_1198 (fun H3 locs3 ls3 hG3 hL3 hl3 => W.widen (k := cells + 120) (n := slots + 5040) (by omega) (by omega) (kk ad' f' s3 r3 _ _ H3 locs3 ls3 ha hG3 hL3 J1 (by rw [← e0, ← e9]; exact hl3)))
set_option maxHeartbeats 4000000 in
theorem lb_crew (hst : l.stackTraces = false) (C : lC p m c s b L xs D cI cZ cB cO cR cJ K) (hG : gW D s.heap (lvC lL0 sC) ad (lW o ad K.2.2.1 cI cZ cB cO cR cJ f sM rM sC rC) H) (hL : gL s.heap locs) (J : jI sC rC sM rM) {a1 a2 a3 i : Nat} (h1 : a1 = ad 100) (h2 : a2 = ad 0) (h3 : a3 = ad 99) (hi : i + 8 ≤ L) (hl : lv_has ls 7 [(0, .ref b), (1, .ref a1), (2, .ref a2), (3, .ref a3), (4, .int (nI i))]) (hcs : cells + 120 ≤ 601024 ∧ slots + 5040 ≤ 7293034)
    (kk : ∀ (ad' : Nat → Nat) (f' : Nat → Int64) (sC' : Nat → Int32) (rC' : Nat → Nat → Int32) (sM' : Nat → Int32) (rM' : Nat → Nat → Int32) (H1 : Heap) (locs1 : List Loc) (ls1 : Array Slot), (∀ j, lvA lL0 j → ad' j = ad j) → gW D s.heap (lvC lL0 sC') ad' (lW o ad' K.2.2.1 cI cZ cB cO cR cJ f' sM' rM' sC' rC') H1 → gL s.heap locs1 → jI sC' rC' sM' rM' → lv_has ls1 7 [(0, .ref b), (1, .ref a1), (2, .ref a2), (3, .ref a3), (4, .int (nI i))] → W p l e room_1 s m #[.ref b] below meth c H1 locs1 (cells + 120) (slots + 5040) Q (F0 m 1362 ls1 [])) : W p l e room_1 s m #[.ref b] below meth c H locs cells slots Q (F0 m 1201 ls []) := by
  subst h1 h2 h3
  have hx := C.1.1.1
  have hb := C.1.1.2.1
  refine lv_aload_n hx hb dL_law_1201 rfl (lv_at hl 1 rfl) ?_
  refine l_argI C hG hl (k0 := 0) (k4 := 4) rfl rfl 1 (kv := 1) (by decide) (by decide) (by omega) dL_law_1202 dL_law_1203 dL_law_1205 dL_law_1206 dL_law_1207 ?_
  refine l_argI C hG hl (k0 := 0) (k4 := 4) rfl rfl 2 (kv := 2) (by decide) (by decide) (by omega) dL_law_1208 dL_law_1209 dL_law_1211 dL_law_1212 dL_law_1213 ?_
  refine lv_aload_n hx hb dL_law_1214 rfl (lv_at hl 3 rfl) ?_
  obtain ⟨v, s1, r1, G, HM⟩ := hh_crew (l := l) (D := D) (Hb := s.heap) (K := K) (ad := ad) (cI := cI) (cZ := cZ) (cB := cB) (cO := cO) (cR := cR) hst J (lW_out (o := o) (ad := ad) (cI := cI) (cZ := cZ) (cJ := cJ) (f := f) (sM := sM) (rM := rM)) (xs (i + 1)) (xs (i + 2))
  refine l_help (n := 4) (As := [.ref (ad 100), .int (xs (i + 1)), .int (xs (i + 2)), .ref (ad 99)]) (rest := []) C.1 C.2.1 hG hL HM gL_law_L_crew rfl ⟨rfl, rfl⟩ (by decide +kernel) ⟨by decide, by decide⟩ rfl hl.1 rfl (Nat.le_of_ble_eq_true rfl) dL_law_1215 ⟨by { show cells + 2 ≤ 601024; omega }, by { show slots + 12 ≤ 7293034; omega }⟩ (fun ad' f' H1 locs1 s3 r3 ha hL1 hG1 hq => ?_)
  have J1 := G.J hq
  have V1 := G.V hq (by decide)
  have e5 := G.2.1
  have e0 := ha 0 (Or.inl ⟨by decide, Or.inl rfl⟩)
  have e1 := ha 100 (Or.inr rfl)
  have e9 := ha 99 (Or.inl ⟨by decide, lL0_99⟩)
  rw [← e0, ← e9] at hl
  clear hq HM
  generalize hC [eI, eN] (xLk (sC 26) (xs (i + 1)) 4 (xs (i + 2))) = k5 at V1 e5 ⊢
  refine lv_istore (lv' := [(5, .int k5), (0, .ref b), (1, .ref (ad 100)), (2, .ref (ad' 0)), (3, .ref (ad' 99)), (4, .int (nI i))]) hx hb dL_law_1218 hl (by decide) rfl (fun ls1 hl => ?_)
  refine lv_aload_n hx hb dL_law_1220 rfl (lv_at hl 3 rfl) ?_
  have hG := hG1
  refine l_argI C hG hl (k0 := 1) (k4 := 5) rfl rfl 1 (kv := 1) (by decide) (by decide) (by omega) dL_law_1221 dL_law_1222 dL_law_1224 dL_law_1225 dL_law_1226 ?_
  refine l_argI C hG hl (k0 := 1) (k4 := 5) rfl rfl 2 (kv := 2) (by decide) (by decide) (by omega) dL_law_1227 dL_law_1228 dL_law_1230 dL_law_1231 dL_law_1232 ?_
  refine l_mod (n := 2) (As := [.int (xs (i + 1)), .int (xs (i + 2))]) (rest := []) C.1 hG hL1 (c_X10_crew lM_lv (xs (i + 1)) (xs (i + 2)) sM rM J.N.2.2.2.1.2) gL_law_X10_crew rfl (by decide +kernel) ⟨by decide, by decide⟩ rfl hl.1 rfl (Nat.le_of_ble_eq_true rfl) dL_law_1233 ⟨by { show cells + 2 ≤ 601024; omega }, by { show slots + 12 ≤ 7293034; omega }⟩ (fun H2 locs2 hG2 hL2 => ?_)
  exact l_tailV (pc := 1236) C hG2 hL2 hl e5 V1 ⟨by omega, by omega⟩ (by decide) dL_law_1236 dL_law_1238 dL_law_1239 dL_law_1242 dL_law_1244 dL_law_1249 dL_law_1251 dL_law_1254 dL_law_1255 dL_law_1256 dL_law_1257 dL_law_1259 dL_law_1260 dL_law_1261 dL_law_1266 (fun H3 locs3 ls3 hG3 hL3 hl3 => W.widen (k := cells + 120) (n := slots + 5040) (by omega) (by omega) (kk ad' f' s3 r3 _ _ H3 locs3 ls3 ha hG3 hL3 J1 (by rw [← e0, ← e9]; exact hl3)))
set_option maxHeartbeats 4000000 in
theorem lb_matter (hst : l.stackTraces = false) (C : lC p m c s b L xs D cI cZ cB cO cR cJ K) (hG : gW D s.heap (lvC lL0 sC) ad (lW o ad K.2.2.1 cI cZ cB cO cR cJ f sM rM sC rC) H) (hL : gL s.heap locs) (J : jI sC rC sM rM) {a1 a2 a3 i : Nat} (h1 : a1 = ad 100) (h2 : a2 = ad 0) (h3 : a3 = ad 99) (hi : i + 8 ≤ L) (hl : lv_has ls 7 [(0, .ref b), (1, .ref a1), (2, .ref a2), (3, .ref a3), (4, .int (nI i))]) (hcs : cells + 120 ≤ 601024 ∧ slots + 5040 ≤ 7293034)
    (kk : ∀ (ad' : Nat → Nat) (f' : Nat → Int64) (sC' : Nat → Int32) (rC' : Nat → Nat → Int32) (sM' : Nat → Int32) (rM' : Nat → Nat → Int32) (H1 : Heap) (locs1 : List Loc) (ls1 : Array Slot), (∀ j, lvA lL0 j → ad' j = ad j) → gW D s.heap (lvC lL0 sC') ad' (lW o ad' K.2.2.1 cI cZ cB cO cR cJ f' sM' rM' sC' rC') H1 → gL s.heap locs1 → jI sC' rC' sM' rM' → lv_has ls1 7 [(0, .ref b), (1, .ref a1), (2, .ref a2), (3, .ref a3), (4, .int (nI i))] → W p l e room_1 s m #[.ref b] below meth c H1 locs1 (cells + 120) (slots + 5040) Q (F0 m 1362 ls1 [])) : W p l e room_1 s m #[.ref b] below meth c H locs cells slots Q (F0 m 1269 ls []) := by
  subst h1 h2 h3
  have hx := C.1.1.1
  have hb := C.1.1.2.1
  refine lv_aload_n hx hb dL_law_1269 rfl (lv_at hl 1 rfl) ?_
  refine l_argI C hG hl (k0 := 0) (k4 := 4) rfl rfl 1 (kv := 1) (by decide) (by decide) (by omega) dL_law_1270 dL_law_1271 dL_law_1273 dL_law_1274 dL_law_1275 ?_
  refine l_argI C hG hl (k0 := 0) (k4 := 4) rfl rfl 2 (kv := 2) (by decide) (by decide) (by omega) dL_law_1276 dL_law_1277 dL_law_1279 dL_law_1280 dL_law_1281 ?_
  refine lv_aload_n hx hb dL_law_1282 rfl (lv_at hl 3 rfl) ?_
  obtain ⟨v, s1, r1, G, HM⟩ := hh_matter (l := l) (D := D) (Hb := s.heap) (K := K) (ad := ad) (cI := cI) (cZ := cZ) (cB := cB) (cO := cO) (cR := cR) hst J (lW_out (o := o) (ad := ad) (cI := cI) (cZ := cZ) (cJ := cJ) (f := f) (sM := sM) (rM := rM)) (xs (i + 1)) (xs (i + 2))
  refine l_help (n := 4) (As := [.ref (ad 100), .int (xs (i + 1)), .int (xs (i + 2)), .ref (ad 99)]) (rest := []) C.1 C.2.1 hG hL HM gL_law_L_matter rfl ⟨rfl, rfl⟩ (by decide +kernel) ⟨by decide, by decide⟩ rfl hl.1 rfl (Nat.le_of_ble_eq_true rfl) dL_law_1283 ⟨by { show cells + 2 ≤ 601024; omega }, by { show slots + 12 ≤ 7293034; omega }⟩ (fun ad' f' H1 locs1 s3 r3 ha hL1 hG1 hq => ?_)
  have J1 := G.J hq
  have V1 := G.V hq (by decide)
  have e5 := G.2.1
  have e0 := ha 0 (Or.inl ⟨by decide, Or.inl rfl⟩)
  have e1 := ha 100 (Or.inr rfl)
  have e9 := ha 99 (Or.inl ⟨by decide, lL0_99⟩)
  rw [← e0, ← e9] at hl
  clear hq HM
  generalize hC [eI, eN] (xLk (sC 39) (xs (i + 1)) 9 (xs (i + 2))) = k5 at V1 e5 ⊢
  refine lv_istore (lv' := [(5, .int k5), (0, .ref b), (1, .ref (ad 100)), (2, .ref (ad' 0)), (3, .ref (ad' 99)), (4, .int (nI i))]) hx hb dL_law_1286 hl (by decide) rfl (fun ls1 hl => ?_)
  refine lv_aload_n hx hb dL_law_1288 rfl (lv_at hl 3 rfl) ?_
  have hG := hG1
  refine l_argI C hG hl (k0 := 1) (k4 := 5) rfl rfl 1 (kv := 1) (by decide) (by decide) (by omega) dL_law_1289 dL_law_1290 dL_law_1292 dL_law_1293 dL_law_1294 ?_
  refine l_argI C hG hl (k0 := 1) (k4 := 5) rfl rfl 2 (kv := 2) (by decide) (by decide) (by omega) dL_law_1295 dL_law_1296 dL_law_1298 dL_law_1299 dL_law_1300 ?_
  refine l_mod (n := 2) (As := [.int (xs (i + 1)), .int (xs (i + 2))]) (rest := []) C.1 hG hL1 (c_X10_matter lM_lv (xs (i + 1)) (xs (i + 2)) sM rM J.N.2.2.2.2.1.2) gL_law_X10_matter rfl (by decide +kernel) ⟨by decide, by decide⟩ rfl hl.1 rfl (Nat.le_of_ble_eq_true rfl) dL_law_1301 ⟨by { show cells + 2 ≤ 601024; omega }, by { show slots + 12 ≤ 7293034; omega }⟩ (fun H2 locs2 hG2 hL2 => ?_)
  exact l_tailV (pc := 1304) C hG2 hL2 hl e5 V1 ⟨by omega, by omega⟩ (by decide) dL_law_1304 dL_law_1306 dL_law_1307 dL_law_1310 dL_law_1312 dL_law_1317 dL_law_1319 dL_law_1322 dL_law_1323 dL_law_1324 dL_law_1325 dL_law_1327 dL_law_1328 dL_law_1329 dL_law_1334 (fun H3 locs3 ls3 hG3 hL3 hl3 => W.widen (k := cells + 120) (n := slots + 5040) (by omega) (by omega) (kk ad' f' s3 r3 _ _ H3 locs3 ls3 ha hG3 hL3 J1 (by rw [← e0, ← e9]; exact hl3)))
set_option maxHeartbeats 4000000 in
theorem lb_count (hst : l.stackTraces = false) (C : lC p m c s b L xs D cI cZ cB cO cR cJ K) (hG : gW D s.heap (lvC lL0 sC) ad (lW o ad K.2.2.1 cI cZ cB cO cR cJ f sM rM sC rC) H) (hL : gL s.heap locs) (J : jI sC rC sM rM) {a1 a2 a3 i : Nat} (h1 : a1 = ad 100) (h2 : a2 = ad 0) (h3 : a3 = ad 99) (hi : i + 8 ≤ L) (hl : lv_has ls 7 [(0, .ref b), (1, .ref a1), (2, .ref a2), (3, .ref a3), (4, .int (nI i))]) (hcs : cells + 120 ≤ 601024 ∧ slots + 5040 ≤ 7293034)
    (kk : ∀ (ad' : Nat → Nat) (f' : Nat → Int64) (sC' : Nat → Int32) (rC' : Nat → Nat → Int32) (sM' : Nat → Int32) (rM' : Nat → Nat → Int32) (H1 : Heap) (locs1 : List Loc) (ls1 : Array Slot), (∀ j, lvA lL0 j → ad' j = ad j) → gW D s.heap (lvC lL0 sC') ad' (lW o ad' K.2.2.1 cI cZ cB cO cR cJ f' sM' rM' sC' rC') H1 → gL s.heap locs1 → jI sC' rC' sM' rM' → lv_has ls1 7 [(0, .ref b), (1, .ref a1), (2, .ref a2), (3, .ref a3), (4, .int (nI i))] → W p l e room_1 s m #[.ref b] below meth c H1 locs1 (cells + 120) (slots + 5040) Q (F0 m 1362 ls1 [])) : W p l e room_1 s m #[.ref b] below meth c H locs cells slots Q (F0 m 1337 ls []) := by
  subst h1 h2 h3
  have hx := C.1.1.1
  have hb := C.1.1.2.1
  refine lv_aload_n hx hb dL_law_1337 rfl (lv_at hl 1 rfl) ?_
  refine l_argI C hG hl (k0 := 0) (k4 := 4) rfl rfl 1 (kv := 1) (by decide) (by decide) (by omega) dL_law_1338 dL_law_1339 dL_law_1341 dL_law_1342 dL_law_1343 ?_
  have G := j_count J (xs (i + 1))
  refine k_callV (n := 1) (As := [.int (xs (i + 1))]) (rest := []) (k := 100) (ci := 10) C.1 hG hL (lvC_L.f (by decide) (by decide)) rfl rfl (c_X9_count sC rC lvC_L (xs (i + 1)) J.n6.1 (Int.le_trans J.n6.2 (by decide)) J.n14.1 J.n14.2 J.n39.1 J.n39.2) gL_law_X9_count rfl ⟨rfl, rfl⟩ (by decide +kernel) ⟨by decide, by decide⟩ rfl hl.1 rfl (Nat.le_of_ble_eq_true rfl) dL_law_1344 ⟨by { show cells + 0 ≤ 601024; omega }, by { show slots + 0 ≤ 7293034; omega }⟩ rfl (fun H1 locs1 hG1 hL1 => ?_)
  have hG : gW D s.heap (lvC lL0 (sC)) ad (lW o ad K.2.2.1 cI cZ cB cO cR cJ f sM rM (sC) (rC)) H1 := hG1
  refine lv_aload_n hx hb dL_law_1347 rfl (lv_at hl 2 rfl) ?_
  refine l_argI C hG hl (k0 := 0) (k4 := 4) rfl rfl 1 (kv := 1) (by decide) (by decide) (by omega) dL_law_1348 dL_law_1349 dL_law_1351 dL_law_1352 dL_law_1353 ?_
  refine l_mod (n := 1) (As := [.int (xs (i + 1))]) (rest := [.int (vKc (xs (i + 1)) sC rC)]) C.1 hG hL1 (c_X10_count lM_lv (xs (i + 1)) sM rM J.N.2.2.2.2.1.1 J.N.2.2.2.2.1.2 J.N.2.1.1 J.N.2.1.2 J.N.2.2.1.1 J.N.2.2.1.2) gL_law_X10_count rfl (by decide +kernel) ⟨by decide, by decide⟩ rfl hl.1 rfl (Nat.le_of_ble_eq_true rfl) dL_law_1354 ⟨by { show cells + 0 ≤ 601024; omega }, by { show slots + 0 ≤ 7293034; omega }⟩ (fun H2 locs2 hG2 hL2 => ?_)
  refine lv_icmp_eq (tgt := 1362) hx hb dL_law_1357 (by decide) (fun _ => ?_) (fun z => absurd G.1 z)
  exact W.widen (k := cells + 120) (n := slots + 5040) (by omega) (by omega) (kk ad f _ _ _ _ H2 locs2 ls (fun _ _ => rfl) hG2 hL2 G.2 hl)
end LR4
