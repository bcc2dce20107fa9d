/-! the calls that change little -/
def jG (cs : List String) (thr : Option String) (vC : Int32) (s1 : Nat → Int32) (r1 : Nat → Nat → Int32) (s2 : Nat → Int32) (r2 : Nat → Nat → Int32) (vM : Int32) (sM : Nat → Int32) (rM : Nat → Nat → Int32) : Prop := (∀ E, thr = some E → E ∈ cs) ∧ hC cs thr = sM 0 ∧ (thr = none → vC = vM ∧ jI s1 r1 sM rM) ∧ (¬ thr = none → jI s2 r2 sM rM)
theorem hC_n {cs : List String} {thr : Option String} (hl : cs.length ≤ 100) (h : ¬ thr = none) : ¬ hC cs thr = 0 := by
  cases thr with
  | none => exact absurd rfl h
  | some E =>
    show ¬ nI (cs.idxOf E + 1) = 0
    intro e
    have hle : cs.idxOf E ≤ cs.length := List.idxOf_le_length
    have a := nI_toInt (n := cs.idxOf E + 1) (by omega)
    rw [e] at a
    have b : (0 : Int32).toInt = 0 := by decide
    omega
theorem hC_in {cs : List String} {thr : Option String} {k : Int32} (h : hC cs thr = k) (hk : k.toInt ≤ cs.length) (hl : cs.length ≤ 100) : ∀ E, thr = some E → E ∈ cs := by
  intro E hE
  subst hE
  have h' : nI (cs.idxOf E + 1) = k := h
  have hle : cs.idxOf E ≤ cs.length := List.idxOf_le_length
  have a := nI_toInt (n := cs.idxOf E + 1) (by omega)
  rw [h'] at a
  exact List.idxOf_lt_length_iff.mp (by omega)
section JM
variable {sC sM : Nat → Int32} {rC rM : Nat → Nat → Int32}
/-- a call that answers and changes nothing but the code -/
theorem jG_read {cs : List String} {thr : Option String} {vC vM k : Int32} (h : jI sC rC sM rM) (hk : hC cs thr = k) (hi : ∀ E, thr = some E → E ∈ cs) (hv : thr = none → vC = vM) : jG cs thr vC sC rC sC rC vM (upd sM 0 k) rM :=
  ⟨hi, hk, fun q => ⟨hv q, jI_0 h k⟩, fun _ => jI_0 h k⟩
theorem xWe_in {d w b : Int32} {s : Nat → Int32} : ∀ E, xWe d w b s = some E → E ∈ [eI, eA, eS] := by
  intro E h
  unfold xWe at h
  repeat (first | (split at h) | (cases h; decide) | (cases h))
theorem xFo_in {d w b : Int32} : ∀ E, xFo d w b = some E → E ∈ [eI, eA] := by
  intro E h
  unfold xFo at h
  repeat (first | (split at h) | (cases h; decide) | (cases h))
theorem xBo_in {n d w : Int32} : ∀ E, xBo n d w = some E → E ∈ [eI, eA] := by
  intro E h
  unfold xBo at h
  repeat (first | (split at h) | (cases h; decide) | (cases h))
theorem xLk_in {n d hi w : Int32} : ∀ E, xLk n d hi w = some E → E ∈ [eI, eN] := by
  intro E h
  unfold xLk xTo at h
  repeat (first | (split at h) | (cases h; decide) | (cases h))
theorem xOg_in {k : Int32} {s : Nat → Int32} {r : Nat → Nat → Int32} : ∀ E, xOg k s r = some E → E ∈ [eI, eS] := by
  intro E h
  unfold xOg at h
  repeat (first | (split at h) | (cases h; decide) | (cases h))
theorem xSd_in {k : Int32} {s : Nat → Int32} {r : Nat → Nat → Int32} : ∀ E, xSd k s r = some E → E ∈ [eI, eS] := by
  intro E h
  unfold xSd at h
  repeat (first | (split at h) | (cases h; decide) | (cases h))
theorem xLe_in {k : Int32} {s : Nat → Int32} : ∀ E, xLe k s = some E → E ∈ [eI] := by
  intro E h
  unfold xLe xNm at h
  repeat (first | (split at h) | (cases h; decide) | (cases h))
theorem j_weather (h : jI sC rC sM rM) (d w b : Int32) : jG [eI, eA, eS] (xWe d w b sC) 0 sC (up2 (up2 rC 2 (Int32.toNatClampNeg d) w) 3 (Int32.toNatClampNeg d) b) sC rC 0 (upd sM 0 (kWe d w b sM)) (rWe d w b sM rM) := by
  have e : xWe d w b sC = xWe d w b sM := by unfold xWe; rw [h.q.s 1]
  rw [e]
  have hk := px_we d w b sM h.N.1.1
  refine ⟨xWe_in, hk, fun q => ⟨rfl, ?_⟩, fun q => ?_⟩
  · rw [q] at hk
    have hk0 : kWe d w b sM = 0 := hk.symm
    unfold rWe
    rw [if_pos hk0]
    exact jI_0 (jI_up (jI_up h 2 _ w rfl trivial) 3 _ b rfl trivial) _
  · have := hC_n (cs := [eI, eA, eS]) (by decide) q
    rw [hk] at this
    unfold rWe
    rw [if_neg this]
    exact jI_0 h _
theorem j_foretell (h : jI sC rC sM rM) (d a b : Int32) : jG [eI, eA] (xFo d a b) 0 sC (up2 (up2 rC 4 (Int32.toNatClampNeg d) a) 5 (Int32.toNatClampNeg d) b) sC rC 0 (upd sM 0 (kFo d a b)) (rFo d a b rM) := by
  have hk := px_fo d a b
  refine ⟨xFo_in, hk, fun q => ⟨rfl, ?_⟩, fun q => ?_⟩
  · rw [q] at hk
    have hk0 : kFo d a b = 0 := hk.symm
    unfold rFo
    rw [if_pos hk0]
    exact jI_0 (jI_up (jI_up h 4 _ a rfl trivial) 5 _ b rfl trivial) _
  · have := hC_n (cs := [eI, eA]) (by decide) q
    rw [hk] at this
    unfold rFo
    rw [if_neg this]
    exact jI_0 h _
theorem jn_b {x a b : Int32} (h : ¬ fIn x a b = 0) : a.toInt ≤ x.toInt ∧ x.toInt ≤ b.toInt := by
  unfold fIn at h
  by_cases c : x < a
  · rw [if_pos c] at h; exact absurd rfl h
  rw [if_neg c] at h
  by_cases c2 : b < x
  · rw [if_pos c2] at h; exact absurd rfl h
  rw [Int32.lt_iff_toInt_lt] at c c2
  omega
theorem jI_29 (h : jI sC rC sM rM) (i : Nat) (x : Int32) (h0 : 0 ≤ x.toInt) (h1 : x.toInt ≤ 20) (h2 : (rM 29 i).toInt ≤ x.toInt) : jI sC (up2 rC 29 i x) sM (up2 rM 29 i x) := by
  obtain ⟨a, b, c, d, e⟩ := h
  refine ⟨qR_up a 29 i x, b, jE_up c ⟨h0, h1⟩, ⟨d.1, fun j hj => ?_, d.2.2.1, d.2.2.2.1, d.2.2.2.2⟩, jQ_eq e (up2_nn _ _ _ (by decide)) (fun dd hd => up2_nn _ _ _ (by omega)) rfl (Int.le_refl _) (up2_nn _ _ _ (by decide)) (up2_nn _ _ _ (by decide)) (up2_nn _ _ _ (by decide))⟩
  rw [up2_n _ _ _ _ (by decide)] at hj
  have := d.2.1 j hj
  rw [up2_e]
  by_cases q : 29 = 29 ∧ j = i
  · rw [if_pos q]
    rw [q.2] at this
    omega
  · rw [if_neg q]; exact this
theorem j_boxes (h : jI sC rC sM rM) (k n : Int32) : jG [eI, eA] (xBo (sC 26) k n) (bBo k n rC) sC (up2 rC 29 (Int32.toNatClampNeg k) (bBo k n rC)) sC rC (vBo k n sM rM) (upd sM 0 (kBo k n sM)) (rBo k n sM rM) := by
  have e : bBo k n rC = bBo k n rM := by unfold bBo; rw [h.q.r 29]
  rw [e, h.q.s 26]
  have hk := px_bo k n sM
  refine ⟨xBo_in, hk, fun q => ?_, fun q => ?_⟩
  · have q0 := q
    rw [q] at hk
    have hk0 : kBo k n sM = 0 := hk.symm
    unfold vBo rBo
    rw [if_pos hk0, if_pos hk0]
    refine ⟨rfl, jI_0 ?_ _⟩
    have hn : ¬ fIn n 0 20 = 0 := by
      intro z
      unfold xBo at q0
      split at q0
      · cases q0
      · cases q0
    have b1 := jn_b hn
    have z0 : (0 : Int32).toInt = 0 := by decide
    have z2 : (20 : Int32).toInt = 20 := by decide
    have b2 : 0 ≤ (rM 29 (Int32.toNatClampNeg k)).toInt ∧ (rM 29 (Int32.toNatClampNeg k)).toInt ≤ 20 := h.E 29 _
    have e3 : (rM 29 (Int32.toNatClampNeg k) + n).toInt = (rM 29 (Int32.toNatClampNeg k)).toInt + n.toInt := t_add (by omega) (by omega)
    have b3 : 0 ≤ (bBo k n rM).toInt ∧ (bBo k n rM).toInt ≤ 20 ∧ (rM 29 (Int32.toNatClampNeg k)).toInt ≤ (bBo k n rM).toInt := by
      unfold bBo
      by_cases c : rM 29 (Int32.toNatClampNeg k) + n ≤ 20
      · rw [if_pos c]
        rw [Int32.le_iff_toInt_le] at c
        omega
      · rw [if_neg c]; omega
    exact jI_29 h _ _ b3.1 b3.2.1 b3.2.2
  · have := hC_n (cs := [eI, eA]) (by decide) q
    rw [hk] at this
    unfold rBo
    rw [if_neg this]
    exact jI_0 h _
theorem j_left (h : jI sC rC sM rM) (c q : Int32) : jG [eI] (xLe c sC) (hgV (Int32.toNatClampNeg c) q sC rC) sC rC sC rC (vLe c q sM rM) (upd sM 0 (kLe c sM)) rM := by
  refine jG_read h (px_le c (h.q.s 39)) xLe_in (fun z => pl_v h.q c q ?_)
  intro y
  unfold xLe xNm at z
  rw [h.q.s 39, if_pos y] at z
  cases z
theorem js_b {n k : Int32} (h : ¬ fIs n k = 0) : 0 ≤ k.toInt ∧ k.toInt < n.toInt := by
  unfold fIs at h
  by_cases c : k < 0
  · rw [if_pos c] at h; exact absurd rfl h
  rw [if_neg c] at h
  by_cases c2 : n ≤ k
  · rw [if_pos c2] at h; exact absurd rfl h
  rw [Int32.lt_iff_toInt_lt] at c
  rw [Int32.le_iff_toInt_le] at c2
  have z0 : (0 : Int32).toInt = 0 := by decide
  omega
theorem j_origin (h : jI sC rC sM rM) (k : Int32) : jG [eI, eS] (xOg k sC rC) (koV k sC rC) sC rC sC rC (vOg k sM rM) (upd sM 0 (kOg k sM rM)) rM := by
  refine jG_read h (px_og k (h.q.s 14) (h.q.r 15)) xOg_in (fun z => ?_)
  have z1 : ¬ fIs (sM 14) k = 0 := fun y => by
    unfold xOg at z
    rw [h.q.s 14, if_pos y] at z
    cases z
  have z2 : rM 15 k.toNatClampNeg = 1 := by
    unfold xOg at z
    rw [h.q.s 14, if_neg z1, h.q.r 15] at z
    by_cases y : rM 15 k.toNatClampNeg = 1
    · exact y
    · rw [if_neg y] at z; cases z
  have b := t_ix h.N.2.1.1
  have b2 := h.N.2.1.2
  have w := h.W _ z2
  refine po_v h.q k z1 z2 (by omega) (fun q hq => aw_ag (fun f hf => h.q.2 f ?_) rfl (by omega) rfl (fun hn => ?_) w.2 (h.E 7 q) (h.E 8 q) (h.E 18 _) (h.E 19 _))
  · have : ∀ f, f ∈ [7, 8, 11, 13, 18, 19, 24] → f ∈ [2, 3, 4, 5, 7, 8, 9, 10, 11, 12, 13, 15, 16, 17, 18, 19, 20, 21, 22, 23, 24, 25, 27, 28, 29, 30, 31, 32, 33, 34, 35, 36, 37, 38, 41, 42, 43, 44, 45, 46, 47, 48, 49, 50, 51, 58, 59, 60] := by decide
    exact this f hf
  · rcases h.E 13 q with e | e
    · exact absurd e hn
    · exact e
theorem xLk_n {n k hi w : Int32} (h : xLk n k hi w = none) : kTo n k hi w = 0 := by
  rw [← px_lk, h]; rfl
theorem j_look (h : jI sC rC sM rM) (k w : Int32) : jG [eI, eN] (xLk (sC 6) k 4 w) (if w = 0 then rC 9 (Int32.toNatClampNeg k) else if w = 1 then rC 10 (Int32.toNatClampNeg k) else if w = 2 then rC 11 (Int32.toNatClampNeg k) else if w = 3 then rC 12 (Int32.toNatClampNeg k) else rC 13 (Int32.toNatClampNeg k)) sC rC sC rC (vLo k w sM rM) (upd sM 0 (kTo (sM 6) k 4 w)) rM := by
  rw [h.q.s 6]
  refine jG_read h (px_lk _ _ _ _) xLk_in (fun z => ?_)
  unfold vLo
  rw [if_pos (xLk_n z), h.q.r 9, h.q.r 10, h.q.r 11, h.q.r 12, h.q.r 13]
theorem j_crew (h : jI sC rC sM rM) (k w : Int32) : jG [eI, eN] (xLk (sC 26) k 4 w) (if w = 0 then rC 34 (Int32.toNatClampNeg k) else if w = 1 then rC 29 (Int32.toNatClampNeg k) else if w = 2 then rC 35 (Int32.toNatClampNeg k) else if w = 3 then rC 37 (Int32.toNatClampNeg k) else rC 38 (Int32.toNatClampNeg k)) sC rC sC rC (vCr k w sM rM) (upd sM 0 (kTo (sM 26) k 4 w)) rM := by
  rw [h.q.s 26]
  refine jG_read h (px_lk _ _ _ _) xLk_in (fun z => ?_)
  unfold vCr
  rw [if_pos (xLk_n z), h.q.r 34, h.q.r 29, h.q.r 35, h.q.r 37, h.q.r 38]
theorem j_swarm (h : jI sC rC sM rM) (k w : Int32) : jG [eI, eN] (xLk (sC 14) k 9 w) (tab9 w (rC 15 (Int32.toNatClampNeg k)) (rC 16 (Int32.toNatClampNeg k)) (rC 17 (Int32.toNatClampNeg k)) (rC 18 (Int32.toNatClampNeg k)) (rC 19 (Int32.toNatClampNeg k)) (rC 20 (Int32.toNatClampNeg k)) (rC 21 (Int32.toNatClampNeg k)) (rC 22 (Int32.toNatClampNeg k)) (rC 23 (Int32.toNatClampNeg k)) (rC 24 (Int32.toNatClampNeg k))) sC rC sC rC (vSw k w sM rM) (upd sM 0 (kTo (sM 14) k 9 w)) rM := by
  rw [h.q.s 14]
  refine jG_read h (px_lk _ _ _ _) xLk_in (fun z => ?_)
  unfold vSw
  rw [if_pos (xLk_n z), h.q.r 15, h.q.r 16, h.q.r 17, h.q.r 18, h.q.r 19, h.q.r 20, h.q.r 21, h.q.r 22, h.q.r 23, h.q.r 24]
theorem j_matter (h : jI sC rC sM rM) (k w : Int32) : jG [eI, eN] (xLk (sC 39) k 9 w) (tab9 w (rC 41 (Int32.toNatClampNeg k)) (rC 42 (Int32.toNatClampNeg k)) (rC 43 (Int32.toNatClampNeg k)) (rC 45 (Int32.toNatClampNeg k)) (rC 46 (Int32.toNatClampNeg k)) (rC 47 (Int32.toNatClampNeg k)) (rC 48 (Int32.toNatClampNeg k)) (rC 49 (Int32.toNatClampNeg k)) (rC 50 (Int32.toNatClampNeg k)) (rC 51 (Int32.toNatClampNeg k))) sC rC sC rC (vMa k w sM rM) (upd sM 0 (kTo (sM 39) k 9 w)) rM := by
  rw [h.q.s 39]
  refine jG_read h (px_lk _ _ _ _) xLk_in (fun z => ?_)
  unfold vMa
  rw [if_pos (xLk_n z), h.q.r 41, h.q.r 42, h.q.r 43, h.q.r 45, h.q.r 46, h.q.r 47, h.q.r 48, h.q.r 49, h.q.r 50, h.q.r 51]
theorem j_fault (h : jI sC rC sM rM) : sC 64 = sM 64 ∧ jI sC rC (upd sM 0 0) rM := ⟨h.q.s 64, jI_0 h 0⟩
theorem j_asked (h : jI sC rC sM rM) (i w : Int32) : vAs i w sC rC = vAs i w sM rM ∧ jI sC rC (upd sM 0 0) rM := by
  refine ⟨?_, jI_0 h 0⟩
  unfold vAs
  rw [h.q.s 57, h.q.r 58, h.q.r 59]
theorem j_count (h : jI sC rC sM rM) (w : Int32) : vKc w sC rC = vCn w sM rM ∧ jI sC rC (upd sM 0 0) rM := ⟨pc_v h.q (fun j _ => h.E 15 j) w, jI_0 h 0⟩
end JM
