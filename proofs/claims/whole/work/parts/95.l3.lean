/-! the helpers, as the law calls them -/
section LR3
variable {l : Launch} {cI cZ cB cO cR cJ : ClassId} {D : va_G} {Hb : Heap} {K : kTx} {ad : Nat → Nat} {f : Nat → Int64} {sM sC s1 s2 s3 sM' : Nat → Int32} {rM rC r1 r2 r3 rM' : Nat → Nat → Int32} {ce0 : Nat → va_E} {l0 : Nat → Prop}
theorem lvC_q {s s' : Nat → Int32} (h6 : s' 6 = s 6) (h14 : s' 14 = s 14) (h26 : s' 26 = s 26) (h39 : s' 39 = s 39) : lvC l0 s' = lvC l0 s := by
  unfold lvC
  rw [h6, h14, h26, h39]
theorem upd9 {s : Nat → Int32} {f g : Nat} {v : Int32} (h : ¬ g = f) : upd s f v g = s g := if_neg h
theorem c_bad {y : MethodName} {ws : List Cond} {rm : Room} {Pc : Array Value → State → Prop} {thr : Option String} {rv rv' : Option Value} {eZ : Nat} {s1 s1' s2 : Nat → Int32} {r1 r1' r2 : Nat → Nat → Int32} {mc ms : Nat} (hn : ¬ thr = none)
    (h : vx_Met l y ws rm Pc (cQ D Hb l0 ad thr rv ce0 eZ cI cB cO cR s1 r1) (cX D Hb l0 ad thr ce0 eZ cI cB cO cR s2 r2) mc ms (gA Hb)) : vx_Met l y ws rm Pc (cQ D Hb l0 ad thr rv' ce0 eZ cI cB cO cR s1' r1') (cX D Hb l0 ad thr ce0 eZ cI cB cO cR s2 r2) mc ms (gA Hb) := by
  refine MetFree.mono h (fun _ _ q => q) (fun _ _ _ _ _ q => q) (fun a st o t _ hq => ?_)
  rcases hq with ⟨⟨e1, -⟩, -⟩ | hq
  · exact absurd e1 hn
  · exact Or.inr hq
theorem jG.J {cs : List String} {thr : Option String} {vC vM : Int32} {ov : Option Int32} {f' : Nat → Int64} (G : jG cs thr vC s1 r1 s2 r2 vM sM' rM') (h : (thr = none ∧ s3 = s1 ∧ r3 = r1 ∧ ∀ v, ov = some v → f' 0 = v.toInt64) ∨ (¬ thr = none ∧ s3 = s2 ∧ r3 = r2)) : jI s3 r3 sM' rM' := by
  rcases h with ⟨a, rfl, rfl, -⟩ | ⟨a, rfl, rfl⟩
  · exact (G.2.2.1 a).2
  · exact G.2.2.2 a
theorem jG.V {cs : List String} {thr : Option String} {vC vM : Int32} {f' : Nat → Int64} (G : jG cs thr vC s1 r1 s2 r2 vM sM' rM') (h : (thr = none ∧ s3 = s1 ∧ r3 = r1 ∧ ∀ v, some vC = some v → f' 0 = v.toInt64) ∨ (¬ thr = none ∧ s3 = s2 ∧ r3 = r2)) (hl : cs.length ≤ 100) : hC cs thr = 0 → f' 0 = vM.toInt64 := by
  intro z
  rcases h with ⟨a, -, -, q⟩ | ⟨a, -, -⟩
  · rw [← (G.2.2.1 a).1]; exact q vC rfl
  · exact absurd z (hC_n hl a)
theorem jI.n6 (J : jI sC rC sM rM) : 0 ≤ (sC 6).toInt ∧ (sC 6).toInt ≤ 20 := by rw [J.q.s 6]; exact J.N.2.1
theorem jI.n14 (J : jI sC rC sM rM) : 0 ≤ (sC 14).toInt ∧ (sC 14).toInt ≤ 60 := by rw [J.q.s 14]; exact J.N.2.2.1
theorem jI.n26 (J : jI sC rC sM rM) : 0 ≤ (sC 26).toInt ∧ (sC 26).toInt ≤ 12 := by rw [J.q.s 26]; exact J.N.2.2.2.1
theorem jI.n39 (J : jI sC rC sM rM) : 0 ≤ (sC 39).toInt ∧ (sC 39).toInt ≤ 60 := by rw [J.q.s 39]; exact J.N.2.2.2.2.1
theorem jI.n57 (J : jI sC rC sM rM) : 0 ≤ (sC 57).toInt ∧ (sC 57).toInt ≤ 12 := by rw [J.q.s 57]; exact J.N.2.2.2.2.2.2.1
theorem jI.n61 (J : jI sC rC sM rM) : 0 ≤ (sC 61).toInt ∧ (sC 61).toInt ≤ 400 := by rw [J.q.s 61]; exact J.N.2.2.2.2.2.2.2
theorem jI.cBd (J : jI sC rC sM rM) : cBd sC := by
  have a := J.n6
  have b := J.n14
  have c := J.n26
  have d := J.n39
  exact ⟨⟨a.1, by omega⟩, b, ⟨c.1, by omega⟩, d⟩
theorem jI.T (J : jI sC rC sM rM) : hTp rC := fun j _ => by rw [J.q.r 60]; exact J.E 60 j
theorem jI.r46 (J : jI sC rC sM rM) (j : Nat) (h : ¬ rC 46 j = -1) : 0 ≤ (rC 46 j).toInt ∧ (rC 46 j).toInt ≤ 743 := by
  rw [J.q.r 46] at h ⊢
  exact (J.E 46 j).resolve_left h
theorem jI.m46 (J : jI sC rC sM rM) (j : Nat) (h : ¬ rM 46 j = -1) : 0 ≤ (rM 46 j).toInt ∧ (rM 46 j).toInt ≤ 743 := (J.E 46 j).resolve_left h
theorem jI.pc (J : jI sC rC sM rM) : pcI sM rM := fun k hk e => by
  have := J.P k hk
  rw [e] at this
  exact absurd this.1 (by decide)
theorem jI.st (J : jI sC rC sM rM) (i j : Nat) : (kSt (rC 27 i) (rC 28 i) (rC 42 j) (rC 43 j)).toInt ≤ 19 := by
  rw [J.q.r 27, J.q.r 28, J.q.r 42, J.q.r 43]
  obtain ⟨e, d, hd, e2⟩ := kSt_f (J.E 27 i) (J.E 28 i) (J.E 42 j) (J.E 43 j)
  rw [e, e2, nI_toInt (by omega)]
  omega
theorem jI.sz (J : jI sC rC sM rM) (lo : Int32) : (0 ≤ (kSz lo rC).toInt ∧ (kSz lo rC).toInt ≤ 12) ∧ ∀ i, i < (kSz lo rC).toNatClampNeg → 0 ≤ (ksK lo i rC).toInt ∧ (ksK lo i rC).toInt < (sC 26).toInt := by
  have z0 : (0 : Int32).toInt = 0 := by decide
  unfold kSz
  by_cases c : fIn lo 0 16 = 0
  · rw [if_pos c]
    exact ⟨⟨by decide, by decide⟩, fun i hi => absurd hi (Nat.not_lt_zero i)⟩
  · rw [if_neg c]
    obtain ⟨c0, c1⟩ := fIn_b c
    have c1 : lo.toInt ≤ 16 := c1
    have c0 : 0 ≤ lo.toInt := c0
    have hd := t_ix c0
    have elo : lo = nI lo.toNatClampNeg := Int32.toInt_inj.mp (by rw [nI_toInt (by omega)]; exact hd.symm)
    by_cases q : ∃ k, k < (sM 52).toNatClampNeg ∧ rM 54 k = nI lo.toNatClampNeg
    · obtain ⟨k, hk, e⟩ := q
      obtain ⟨d, d1, d2, d3, d4, d5⟩ := J.Q.1 k hk
      have ed : d = lo.toNatClampNeg := (nI_eq (by omega) (by omega)).mp (d2.symm.trans e)
      subst ed
      rw [d3]
      refine ⟨⟨by omega, d4.2⟩, fun i hi => ?_⟩
      unfold ksK
      rw [(d5 i hi).1, J.q.s 26]
      exact (d5 i hi).2
    · have e := J.Q.2.2 lo.toNatClampNeg (by omega) (fun k hk e => q ⟨k, hk, e⟩)
      rw [e]
      exact ⟨⟨by decide, by decide⟩, fun i hi => absurd hi (Nat.not_lt_zero i)⟩
theorem jI.tn (J : jI sC rC sM rM) : tnI sM rM := fun k hk => by
  obtain ⟨d, d1, d2, d3, d4, d5⟩ := J.Q.1 k hk
  exact ⟨⟨by omega, d4.2⟩, fun i hi => (d5 i hi).2⟩
theorem ks_q (c L : Int32) (s : Nat → Int32) (r : Nat → Nat → Int32) (n i : Nat) {g : Nat} (hg : ¬ g = 57) : (ksT c L s r n i).2.1 g = s g := by
  induction n generalizing i with
  | zero => simp [ksT, upd, hg]
  | succ n ih =>
    unfold ksT
    by_cases h : ksG c L i s r = 0
    · rw [if_pos h]; simp [upd, hg]
    · rw [if_neg h]; exact ih (i + 1)
theorem ksX_q {c : Int32} {s : Nat → Int32} {r : Nat → Nat → Int32} {g : Nat} (hg : ¬ g = 57) : (ksX c s r).2.1 g = s g := by
  unfold ksX
  exact ks_q _ _ _ _ _ _ hg
theorem jI.kH (J : jI sC rC sM rM) : kH0 sC rC := by
  have n1 : 0 ≤ (sC 1).toInt ∧ (sC 1).toInt ≤ 743 := by rw [J.q.s 1]; exact J.N.1
  refine ⟨J.cBd, n1.1, n1.2, J.n26.2, fun j a b => ?_⟩
  rw [J.q.r 34] at a b
  rw [J.q.r 37, J.q.s 39]
  rcases J.E 34 j with h | h | h
  · exact absurd h a
  · exact J.K j h
  · exact absurd h b
theorem jI.HI (J : jI sC rC sM rM) : HI sM rM := by
  have n := J.N
  refine ⟨n.1, n.2.2.1, n.2.2.2.1, n.2.1, fun j _ a b => ?_⟩
  rcases J.E 34 j with h | h | h
  · exact absurd h a
  · have := J.K j h
    have := n.2.2.2.2.1
    exact vp_in_iff.mpr ⟨by omega, by omega⟩
  · exact absurd h b
theorem jI.og (J : jI sC rC sM rM) (j : Nat) (_ : j < (sC 14).toNatClampNeg) (h : rC 15 j = 1) : 0 ≤ (rC 25 j).toInt ∧ (rC 25 j).toInt < (sC 39).toInt := by
  rw [J.q.r 15] at h
  rw [J.q.r 25, J.q.s 39]
  exact (J.W j h).1
theorem jI.om (J : jI sC rC sM rM) {j : Nat} (h : rM 15 j = 1) : vp_in (rM 25 j) 60 := by
  have := (J.W j h).1
  have := J.N.2.2.2.2.1
  exact vp_in_iff.mpr ⟨by omega, by omega⟩
set_option maxHeartbeats 1000000 in
theorem hh_weather (hst : l.stackTraces = false) (J : jI sC rC sM rM) (hf : ce0 99 = .inl (cJ, 1, .inr (.inl f))) (a0 a1 a2 : Int32) : ∃ (v : Int32) (s1 : Nat → Int32) (r1 : Nat → Nat → Int32), jG [eI, eA, eS] (xWe a0 a1 a2 sC) v s1 r1 sC rC 0 (upd sM 0 (kWe a0 a1 a2 sM)) (rWe a0 a1 a2 sM rM) ∧ vx_Met l yL_weather wsL_weather { frames := 7, cells := 1, slots := 6, locals := 115 } (va_Pc [.ref (ad 100), .int a0, .int a1, .int a2] (hP D (tyL cI cZ cB cO cR cJ) Hb K (lvC lL0 sC) ad (kJ ce0 ad K.2.2.1 cI cB cO cR sC rC))) (hQ D Hb lL0 ad ce0 K.2.2.1 cI cB cO cR cJ [eI, eA, eS] (xWe a0 a1 a2 sC) none s1 r1 sC rC) (fun _ _ _ => False) 1 6 (gA Hb) := by
  exact ⟨_, _, _, j_weather J a0 a1 a2, hl_weather lL0_99 hf ⟨rfl, rfl⟩ ⟨by decide, by decide, by decide, by decide⟩ (j_weather J a0 a1 a2).1 (c_ofx (c_X9_weather hst sC rC lvC_L a0 a1 a2 ) (fun _ => rfl) rfl)⟩
set_option maxHeartbeats 1000000 in
theorem hh_foretell (hst : l.stackTraces = false) (J : jI sC rC sM rM) (hf : ce0 99 = .inl (cJ, 1, .inr (.inl f))) (a0 a1 a2 : Int32) : ∃ (v : Int32) (s1 : Nat → Int32) (r1 : Nat → Nat → Int32), jG [eI, eA] (xFo a0 a1 a2) v s1 r1 sC rC 0 (upd sM 0 (kFo a0 a1 a2)) (rFo a0 a1 a2 rM) ∧ vx_Met l yL_foretell wsL_foretell { frames := 7, cells := 1, slots := 6, locals := 115 } (va_Pc [.ref (ad 100), .int a0, .int a1, .int a2] (hP D (tyL cI cZ cB cO cR cJ) Hb K (lvC lL0 sC) ad (kJ ce0 ad K.2.2.1 cI cB cO cR sC rC))) (hQ D Hb lL0 ad ce0 K.2.2.1 cI cB cO cR cJ [eI, eA] (xFo a0 a1 a2) none s1 r1 sC rC) (fun _ _ _ => False) 1 6 (gA Hb) := by
  exact ⟨_, _, _, j_foretell J a0 a1 a2, hl_foretell lL0_99 hf ⟨rfl, rfl⟩ ⟨by decide, by decide, by decide, by decide⟩ (j_foretell J a0 a1 a2).1 (c_ofx (c_X9_foretell hst sC rC lvC_L a0 a1 a2 ) (fun _ => rfl) rfl)⟩
set_option maxHeartbeats 1000000 in
theorem hh_hive (hst : l.stackTraces = false) (J : jI sC rC sM rM) (hf : ce0 99 = .inl (cJ, 1, .inr (.inl f))) (a0 a1 a2 a3 a4 : Int32) : ∃ (v : Int32) (s1 : Nat → Int32) (r1 : Nat → Nat → Int32), jG [eA, eU] (xHi a0 a1 a2 a3 a4 sC) v s1 r1 sC rC (vHi a0 a1 a2 a3 a4 sM) (sHi a0 a1 a2 a3 a4 sM) (rHi a0 a1 a2 a3 a4 sM rM) ∧ vx_Met l yL_hive wsL_hive { frames := 8, cells := 2, slots := 90, locals := 205 } (va_Pc [.ref (ad 100), .int a0, .int a1, .int a2, .int a3, .int a4, .ref (ad 99)] (hP D (tyL cI cZ cB cO cR cJ) Hb K (lvC lL0 sC) ad (kJ ce0 ad K.2.2.1 cI cB cO cR sC rC))) (hQ D Hb lL0 ad ce0 K.2.2.1 cI cB cO cR cJ [eA, eU] (xHi a0 a1 a2 a3 a4 sC) (some v) s1 r1 sC rC) (fun _ _ _ => False) 2 90 (gA Hb) := by
  refine ⟨_, _, _, j_hive J a0 a1 a2 a3 a4, ?_⟩
  by_cases h : xHi a0 a1 a2 a3 a4 sC = none
  · exact hl_hive lL0_99 hf ⟨rfl, rfl⟩ ⟨by decide, by decide, by decide, by decide⟩ (j_hive J a0 a1 a2 a3 a4).1 (c_ofm h (c_X9_hive_ok sC rC a0 a1 a2 a3 a4 h J.cBd))
  · exact hl_hive lL0_99 hf ⟨rfl, rfl⟩ ⟨by decide, by decide, by decide, by decide⟩ (j_hive J a0 a1 a2 a3 a4).1 (c_bad h (c_ofx (c_X9_hive_bad hst sC rC lvC_L a0 a1 a2 a3 a4 h) (fun _ => rfl) rfl))
set_option maxHeartbeats 1000000 in
theorem hh_keeper (hst : l.stackTraces = false) (J : jI sC rC sM rM) (hf : ce0 99 = .inl (cJ, 1, .inr (.inl f))) (a0 a1 a2 a3 a4 a5 a6 : Int32) : ∃ (v : Int32) (s1 : Nat → Int32) (r1 : Nat → Nat → Int32), jG [eA, eU] (xKe a0 a1 a2 a3 a4 a5 a6 sC) v s1 r1 sC rC (vKe a0 a1 a2 a3 a4 a5 a6 sM) (sKe a0 a1 a2 a3 a4 a5 a6 sM) (rKe a0 a1 a2 a3 a4 a5 a6 sM rM) ∧ vx_Met l yL_keeper wsL_keeper { frames := 8, cells := 2, slots := 90, locals := 207 } (va_Pc [.ref (ad 100), .int a0, .int a1, .int a2, .int a3, .int a4, .int a5, .int a6, .ref (ad 99)] (hP D (tyL cI cZ cB cO cR cJ) Hb K (lvC lL0 sC) ad (kJ ce0 ad K.2.2.1 cI cB cO cR sC rC))) (hQ D Hb lL0 ad ce0 K.2.2.1 cI cB cO cR cJ [eA, eU] (xKe a0 a1 a2 a3 a4 a5 a6 sC) (some v) s1 r1 sC rC) (fun _ _ _ => False) 2 90 (gA Hb) := by
  refine ⟨_, _, _, j_keeper J a0 a1 a2 a3 a4 a5 a6, ?_⟩
  by_cases h : xKe a0 a1 a2 a3 a4 a5 a6 sC = none
  · exact hl_keeper lL0_99 hf ⟨rfl, rfl⟩ ⟨by decide, by decide, by decide, by decide⟩ (j_keeper J a0 a1 a2 a3 a4 a5 a6).1 (c_ofm h (c_X9_keeper_ok sC rC a0 a1 a2 a3 a4 a5 a6 h J.cBd))
  · exact hl_keeper lL0_99 hf ⟨rfl, rfl⟩ ⟨by decide, by decide, by decide, by decide⟩ (j_keeper J a0 a1 a2 a3 a4 a5 a6).1 (c_bad h (c_ofx (c_X9_keeper_bad hst sC rC lvC_L a0 a1 a2 a3 a4 a5 a6 h) (fun _ => rfl) rfl))
set_option maxHeartbeats 1000000 in
theorem hh_boxes (hst : l.stackTraces = false) (J : jI sC rC sM rM) (hf : ce0 99 = .inl (cJ, 1, .inr (.inl f))) (a0 a1 : Int32) : ∃ (v : Int32) (s1 : Nat → Int32) (r1 : Nat → Nat → Int32), jG [eI, eA] (xBo (sC 26) a0 a1) v s1 r1 sC rC (vBo a0 a1 sM rM) (upd sM 0 (kBo a0 a1 sM)) (rBo a0 a1 sM rM) ∧ vx_Met l yL_boxes wsL_boxes { frames := 8, cells := 2, slots := 12, locals := 136 } (va_Pc [.ref (ad 100), .int a0, .int a1, .ref (ad 99)] (hP D (tyL cI cZ cB cO cR cJ) Hb K (lvC lL0 sC) ad (kJ ce0 ad K.2.2.1 cI cB cO cR sC rC))) (hQ D Hb lL0 ad ce0 K.2.2.1 cI cB cO cR cJ [eI, eA] (xBo (sC 26) a0 a1) (some v) s1 r1 sC rC) (fun _ _ _ => False) 2 12 (gA Hb) := by
  exact ⟨_, _, _, j_boxes J a0 a1, hl_boxes lL0_99 hf ⟨rfl, rfl⟩ ⟨by decide, by decide, by decide, by decide⟩ (j_boxes J a0 a1).1 (c_ofx (c_X9_boxes hst sC rC lvC_L a0 a1 (Int.le_trans J.n26.2 (by decide))) (fun _ => rfl) rfl)⟩
set_option maxHeartbeats 1000000 in
theorem hh_hours (hst : l.stackTraces = false) (J : jI sC rC sM rM) (hf : ce0 99 = .inl (cJ, 1, .inr (.inl f))) (a0 : Int32) : ∃ (v : Int32) (s1 : Nat → Int32) (r1 : Nat → Nat → Int32), jG [eA] (xHs a0) v s1 r1 sC rC (vHs a0 sM rM) ((hsX a0 sM rM).1) ((hsX a0 sM rM).2) ∧ vx_Met l yL_hours wsL_hours { frames := 10, cells := 120, slots := 5040, locals := 247 } (va_Pc [.ref (ad 100), .int a0, .ref (ad 99)] (hP D (tyL cI cZ cB cO cR cJ) Hb K (lvC lL0 sC) ad (kJ ce0 ad K.2.2.1 cI cB cO cR sC rC))) (hQ D Hb lL0 ad ce0 K.2.2.1 cI cB cO cR cJ [eA] (xHs a0) (some v) s1 r1 sC rC) (fun _ _ _ => False) 120 5040 (gA Hb) := by
  by_cases c : fIn a0 0 100 = 0
  · have h : ¬ xHs a0 = none := by
      rw [show xHs a0 = some eA from if_pos c]
      exact nofun
    have G := j_hours J a0 0 (fun z => absurd c z) sC rC (fun z => absurd c z) (fun z => absurd c z)
    exact ⟨_, _, _, G, hl_hours lL0_99 hf ⟨rfl, rfl⟩ ⟨by decide, by decide, by decide, by decide⟩ G.1 (c_ofx (c_X9_hours_bad hst sC rC lvC_L a0 h) (fun _ => rfl) rfl)⟩
  · have h : xHs a0 = none := if_neg c
    have G := j_hours J a0 _ (fun _ => rfl) _ _ (fun _ => rfl) (fun _ => rfl)
    exact ⟨_, _, _, G, hl_hours lL0_99 hf ⟨rfl, rfl⟩ ⟨by decide, by decide, by decide, by decide⟩ G.1 (c_ofm h (c_X9_hours_ok sC rC a0 c J.kH))⟩
set_option maxHeartbeats 1000000 in
theorem hh_call (hst : l.stackTraces = false) (J : jI sC rC sM rM) (hf : ce0 99 = .inl (cJ, 1, .inr (.inl f))) : ∃ (v : Int32) (s1 : Nat → Int32) (r1 : Nat → Nat → Int32), jG [eA, eU] (xCl sC rC) v s1 r1 (kcS sC rC) rC ((clX sM rM).1) ((clX sM rM).2.1) ((clX sM rM).2.2) ∧ vx_Met l yL_call wsL_call { frames := 8, cells := 2, slots := 84, locals := 202 } (va_Pc [.ref (ad 100), .ref (ad 99)] (hP D (tyL cI cZ cB cO cR cJ) Hb K (lvC lL0 sC) ad (kJ ce0 ad K.2.2.1 cI cB cO cR sC rC))) (hQ D Hb lL0 ad ce0 K.2.2.1 cI cB cO cR cJ [eA, eU] (xCl sC rC) (some v) s1 r1 (kcS sC rC) rC) (fun _ _ _ => False) 2 84 (gA Hb) := by
  by_cases h : xCl sC rC = none
  · by_cases n : kcN sC rC = -1
    · have G := j_call J _ _ _ (fun _ z => absurd n z) (fun _ _ sc e => by subst e; exact ⟨rfl, rfl, rfl⟩)
      exact ⟨_, _, _, G, hl_call lL0_99 hf ⟨rfl, rfl⟩ ⟨by decide, by decide, by decide, by decide⟩ G.1 (c_ofm h (c_X9_call_new sC rC J.cBd J.n61 J.T h n _ rfl))⟩
    · have G := j_call J _ _ _ (fun _ _ => ⟨rfl, rfl, rfl⟩) (fun _ z => absurd z n)
      exact ⟨_, _, _, G, hl_call lL0_99 hf ⟨rfl, rfl⟩ ⟨by decide, by decide, by decide, by decide⟩ G.1 (c_ofk h (c_X9_call_old sC rC lvC_L J.cBd J.n61 J.T h n) ((lvC_q (upd9 (by decide)) (upd9 (by decide)) (upd9 (by decide)) (upd9 (by decide))).trans kcS_lv))⟩
  · have G := j_call J 0 sC rC (fun z => absurd z h) (fun z => absurd z h)
    exact ⟨_, _, _, G, hl_call lL0_99 hf ⟨rfl, rfl⟩ ⟨by decide, by decide, by decide, by decide⟩ G.1 (c_ofx (c_X9_call_bad hst sC rC lvC_L J.cBd J.n61 J.T h) (fun _ => rfl) kcS_lv)⟩
set_option maxHeartbeats 1000000 in
theorem hh_rota (hst : l.stackTraces = false) (J : jI sC rC sM rM) (hf : ce0 99 = .inl (cJ, 1, .inr (.inl f))) : ∃ (v : Int32) (s1 : Nat → Int32) (r1 : Nat → Nat → Int32), jG [eA] (xRo sC rC) v s1 r1 (ktU sC rC) ((ktZ (sC 26) sC rC).2.2) ((roX sM rM).1) ((roX sM rM).2.1) ((roX sM rM).2.2) ∧ vx_Met l yL_rota wsL_rota { frames := 9, cells := 1, slots := 6, locals := 197 } (va_Pc [.ref (ad 100), .ref (ad 99)] (hP D (tyL cI cZ cB cO cR cJ) Hb K (lvC lL0 sC) ad (kJ ce0 ad K.2.2.1 cI cB cO cR sC rC))) (hQ D Hb lL0 ad ce0 K.2.2.1 cI cB cO cR cJ [eA] (xRo sC rC) (some v) s1 r1 (ktU sC rC) ((ktZ (sC 26) sC rC).2.2)) (fun _ _ _ => False) 1 6 (gA Hb) := by
  by_cases c : (ktZ (sC 26) sC rC).1 = 0
  · have h : ¬ xRo sC rC = none := by
      rw [show xRo sC rC = some eA from if_pos c]
      exact nofun
    have G := j_rota J 0 sC rC (fun z => absurd c z)
    exact ⟨_, _, _, G, hl_rota lL0_99 hf ⟨rfl, rfl⟩ ⟨by decide, by decide, by decide, by decide⟩ G.1 (c_ofx (c_X9_rota_bad hst sC rC lvC_L J.n61 J.T h) (fun _ => rfl) ktU_lv)⟩
  · have h : xRo sC rC = none := if_neg c
    have G := j_rota J _ _ _ (fun _ sc e => by subst e; exact ⟨rfl, rfl, rfl⟩)
    exact ⟨_, _, _, G, hl_rota lL0_99 hf ⟨rfl, rfl⟩ ⟨by decide, by decide, by decide, by decide⟩ G.1 (c_ofm h (c_X9_rota_ok sC rC J.n61 J.T c _ rfl _ rfl))⟩
set_option maxHeartbeats 1000000 in
theorem hh_send (hst : l.stackTraces = false) (J : jI sC rC sM rM) (hf : ce0 99 = .inl (cJ, 1, .inr (.inl f))) (a0 : Int32) : ∃ (v : Int32) (s1 : Nat → Int32) (r1 : Nat → Nat → Int32), jG [eI, eS] (xSd a0 sC rC) v s1 r1 sC rC ((sdX a0 sM rM).1) ((sdX a0 sM rM).2.1) ((sdX a0 sM rM).2.2) ∧ vx_Met l yL_send wsL_send { frames := 8, cells := 2, slots := 12, locals := 140 } (va_Pc [.ref (ad 100), .int a0, .ref (ad 99)] (hP D (tyL cI cZ cB cO cR cJ) Hb K (lvC lL0 sC) ad (kJ ce0 ad K.2.2.1 cI cB cO cR sC rC))) (hQ D Hb lL0 ad ce0 K.2.2.1 cI cB cO cR cJ [eI, eS] (xSd a0 sC rC) (some v) s1 r1 sC rC) (fun _ _ _ => False) 2 12 (gA Hb) := by
  exact ⟨_, _, _, j_send J a0, hl_send lL0_99 hf ⟨rfl, rfl⟩ ⟨by decide, by decide, by decide, by decide⟩ (j_send J a0).1 (c_ofx (c_X9_send hst sC rC lvC_L a0 J.n39.2 (Int.le_trans J.n26.2 (by decide)) (fun q => (J.sz q).1.1) (fun q => (J.sz q).1.2) (fun q => (J.sz q).2) (fun i j _ _ => J.st i j)) (fun _ => lvC_q (ksX_q (by decide)) (ksX_q (by decide)) (ksX_q (by decide)) (ksX_q (by decide))) rfl)⟩
set_option maxHeartbeats 1000000 in
theorem hh_left (hst : l.stackTraces = false) (J : jI sC rC sM rM) (hf : ce0 99 = .inl (cJ, 1, .inr (.inl f))) (a0 a1 : Int32) : ∃ (v : Int32) (s1 : Nat → Int32) (r1 : Nat → Nat → Int32), jG [eI] (xLe a0 sC) v s1 r1 sC rC (vLe a0 a1 sM rM) (upd sM 0 (kLe a0 sM)) rM ∧ vx_Met l yL_left wsL_left { frames := 8, cells := 1, slots := 6, locals := 157 } (va_Pc [.ref (ad 100), .int a0, .int a1, .ref (ad 99)] (hP D (tyL cI cZ cB cO cR cJ) Hb K (lvC lL0 sC) ad (kJ ce0 ad K.2.2.1 cI cB cO cR sC rC))) (hQ D Hb lL0 ad ce0 K.2.2.1 cI cB cO cR cJ [eI] (xLe a0 sC) (some v) s1 r1 sC rC) (fun _ _ _ => False) 1 6 (gA Hb) := by
  exact ⟨_, _, _, j_left J a0 a1, hl_leftW lL0_99 hf ⟨rfl, rfl⟩ ⟨by decide, by decide, by decide, by decide⟩ (j_left J a0 a1).1 (c_ofx (c_X9_left hst sC rC lvC_L a0 a1 J.n39.2 (fun j _ h => J.r46 j h)) (fun _ => rfl) rfl)⟩
set_option maxHeartbeats 1000000 in
theorem hh_origin (hst : l.stackTraces = false) (J : jI sC rC sM rM) (hf : ce0 99 = .inl (cJ, 1, .inr (.inl f))) (a0 : Int32) : ∃ (v : Int32) (s1 : Nat → Int32) (r1 : Nat → Nat → Int32), jG [eI, eS] (xOg a0 sC rC) v s1 r1 sC rC (vOg a0 sM rM) (upd sM 0 (kOg a0 sM rM)) rM ∧ vx_Met l yL_origin wsL_origin { frames := 8, cells := 2, slots := 12, locals := 138 } (va_Pc [.ref (ad 100), .int a0, .ref (ad 99)] (hP D (tyL cI cZ cB cO cR cJ) Hb K (lvC lL0 sC) ad (kJ ce0 ad K.2.2.1 cI cB cO cR sC rC))) (hQ D Hb lL0 ad ce0 K.2.2.1 cI cB cO cR cJ [eI, eS] (xOg a0 sC rC) (some v) s1 r1 sC rC) (fun _ _ _ => False) 2 12 (gA Hb) := by
  exact ⟨_, _, _, j_origin J a0, hl_origin lL0_99 hf ⟨rfl, rfl⟩ ⟨by decide, by decide, by decide, by decide⟩ (j_origin J a0).1 (c_ofx (c_X9_origin hst sC rC lvC_L a0 J.n14.2 J.n6.1 (Int.le_trans J.n6.2 (by decide)) J.n39.2 J.og) (fun _ => rfl) rfl)⟩
set_option maxHeartbeats 1000000 in
theorem hh_look (hst : l.stackTraces = false) (J : jI sC rC sM rM) (hf : ce0 99 = .inl (cJ, 1, .inr (.inl f))) (a0 a1 : Int32) : ∃ (v : Int32) (s1 : Nat → Int32) (r1 : Nat → Nat → Int32), jG [eI, eN] (xLk (sC 6) a0 4 a1) v s1 r1 sC rC (vLo a0 a1 sM rM) (upd sM 0 (kTo (sM 6) a0 4 a1)) rM ∧ vx_Met l yL_look wsL_look { frames := 8, cells := 1, slots := 6, locals := 135 } (va_Pc [.ref (ad 100), .int a0, .int a1, .ref (ad 99)] (hP D (tyL cI cZ cB cO cR cJ) Hb K (lvC lL0 sC) ad (kJ ce0 ad K.2.2.1 cI cB cO cR sC rC))) (hQ D Hb lL0 ad ce0 K.2.2.1 cI cB cO cR cJ [eI, eN] (xLk (sC 6) a0 4 a1) (some v) s1 r1 sC rC) (fun _ _ _ => False) 1 6 (gA Hb) := by
  exact ⟨_, _, _, j_look J a0 a1, hl_look lL0_99 hf ⟨rfl, rfl⟩ ⟨by decide, by decide, by decide, by decide⟩ (j_look J a0 a1).1 (c_ofx (e_X9_look hst sC rC lvC_L a0 a1 (Int.le_trans J.n6.2 (by decide))) (fun _ => rfl) rfl)⟩
set_option maxHeartbeats 1000000 in
theorem hh_swarm (hst : l.stackTraces = false) (J : jI sC rC sM rM) (hf : ce0 99 = .inl (cJ, 1, .inr (.inl f))) (a0 a1 : Int32) : ∃ (v : Int32) (s1 : Nat → Int32) (r1 : Nat → Nat → Int32), jG [eI, eN] (xLk (sC 14) a0 9 a1) v s1 r1 sC rC (vSw a0 a1 sM rM) (upd sM 0 (kTo (sM 14) a0 9 a1)) rM ∧ vx_Met l yL_swarm wsL_swarm { frames := 8, cells := 2, slots := 12, locals := 135 } (va_Pc [.ref (ad 100), .int a0, .int a1, .ref (ad 99)] (hP D (tyL cI cZ cB cO cR cJ) Hb K (lvC lL0 sC) ad (kJ ce0 ad K.2.2.1 cI cB cO cR sC rC))) (hQ D Hb lL0 ad ce0 K.2.2.1 cI cB cO cR cJ [eI, eN] (xLk (sC 14) a0 9 a1) (some v) s1 r1 sC rC) (fun _ _ _ => False) 2 12 (gA Hb) := by
  exact ⟨_, _, _, j_swarm J a0 a1, hl_swarm lL0_99 hf ⟨rfl, rfl⟩ ⟨by decide, by decide, by decide, by decide⟩ (j_swarm J a0 a1).1 (c_ofx (e_X9_swarm hst sC rC lvC_L a0 a1 J.n14.2) (fun _ => rfl) rfl)⟩
set_option maxHeartbeats 1000000 in
theorem hh_crew (hst : l.stackTraces = false) (J : jI sC rC sM rM) (hf : ce0 99 = .inl (cJ, 1, .inr (.inl f))) (a0 a1 : Int32) : ∃ (v : Int32) (s1 : Nat → Int32) (r1 : Nat → Nat → Int32), jG [eI, eN] (xLk (sC 26) a0 4 a1) v s1 r1 sC rC (vCr a0 a1 sM rM) (upd sM 0 (kTo (sM 26) a0 4 a1)) rM ∧ vx_Met l yL_crew wsL_crew { frames := 8, cells := 2, slots := 12, locals := 135 } (va_Pc [.ref (ad 100), .int a0, .int a1, .ref (ad 99)] (hP D (tyL cI cZ cB cO cR cJ) Hb K (lvC lL0 sC) ad (kJ ce0 ad K.2.2.1 cI cB cO cR sC rC))) (hQ D Hb lL0 ad ce0 K.2.2.1 cI cB cO cR cJ [eI, eN] (xLk (sC 26) a0 4 a1) (some v) s1 r1 sC rC) (fun _ _ _ => False) 2 12 (gA Hb) := by
  exact ⟨_, _, _, j_crew J a0 a1, hl_crew lL0_99 hf ⟨rfl, rfl⟩ ⟨by decide, by decide, by decide, by decide⟩ (j_crew J a0 a1).1 (c_ofx (e_X9_crew hst sC rC lvC_L a0 a1 (Int.le_trans J.n26.2 (by decide))) (fun _ => rfl) rfl)⟩
set_option maxHeartbeats 1000000 in
theorem hh_matter (hst : l.stackTraces = false) (J : jI sC rC sM rM) (hf : ce0 99 = .inl (cJ, 1, .inr (.inl f))) (a0 a1 : Int32) : ∃ (v : Int32) (s1 : Nat → Int32) (r1 : Nat → Nat → Int32), jG [eI, eN] (xLk (sC 39) a0 9 a1) v s1 r1 sC rC (vMa a0 a1 sM rM) (upd sM 0 (kTo (sM 39) a0 9 a1)) rM ∧ vx_Met l yL_matter wsL_matter { frames := 8, cells := 2, slots := 12, locals := 135 } (va_Pc [.ref (ad 100), .int a0, .int a1, .ref (ad 99)] (hP D (tyL cI cZ cB cO cR cJ) Hb K (lvC lL0 sC) ad (kJ ce0 ad K.2.2.1 cI cB cO cR sC rC))) (hQ D Hb lL0 ad ce0 K.2.2.1 cI cB cO cR cJ [eI, eN] (xLk (sC 39) a0 9 a1) (some v) s1 r1 sC rC) (fun _ _ _ => False) 2 12 (gA Hb) := by
  exact ⟨_, _, _, j_matter J a0 a1, hl_matter lL0_99 hf ⟨rfl, rfl⟩ ⟨by decide, by decide, by decide, by decide⟩ (j_matter J a0 a1).1 (c_ofx (e_X9_matter hst sC rC lvC_L a0 a1 J.n39.2) (fun _ => rfl) rfl)⟩
end LR3
