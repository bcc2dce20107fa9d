theorem lvC_a0 {s : Nat → Int32} (h0 : 0 ≤ (s 6).toInt) (h1 : (s 6).toInt < 60) : ((upd (upd s 121 (s 121 + 1)) 6 (s 6 + 1)) 6).toNatClampNeg = (s 6).toNatClampNeg + 1 ∧ ((upd (upd s 121 (s 121 + 1)) 6 (s 6 + 1)) 14) = s 14 ∧ ((upd (upd s 121 (s 121 + 1)) 6 (s 6 + 1)) 26) = s 26 ∧ ((upd (upd s 121 (s 121 + 1)) 6 (s 6 + 1)) 39) = s 39 := by
  refine ⟨?_, rfl, rfl, rfl⟩
  show (s 6 + 1).toNatClampNeg = _
  have q := p1 h0 (by omega)
  have a := t_ix h0
  have b := t_ix (x := s 6 + 1) (by omega)
  omega
theorem lvC_w0 {l0 : Nat → Prop} {s : Nat → Int32} (h0 : 0 ≤ (s 6).toInt) (h1 : (s 6).toInt < 60) {k : Nat} (h : lvC l0 (upd (upd s 121 (s 121 + 1)) 6 (s 6 + 1)) k) : (k < 100 ∧ l0 k) ∨ kLv ((s 6).toNatClampNeg + 1) (s 14).toNatClampNeg (s 26).toNatClampNeg (s 39).toNatClampNeg k := by
  have q := lvC_a0 h0 h1
  unfold lvC at h
  rw [q.1, q.2.1, q.2.2.1, q.2.2.2] at h
  exact h
theorem lvC_i0 {l0 : Nat → Prop} {s : Nat → Int32} (h0 : 0 ≤ (s 6).toInt) (h1 : (s 6).toInt < 60) {k : Nat} (h : lvC l0 (upd (upd s 121 (s 121 + 1)) 6 (s 6 + 1)) k) : (lvC l0 s k ∨ k = 1000 + (s 6).toNatClampNeg) ∨ k = gKey 0 ((s 6).toNatClampNeg + 1) := by
  rcases lvC_w0 h0 h1 h with h | h
  · exact Or.inl (Or.inl (Or.inl h))
  · have q : kLv (s 6).toNatClampNeg (s 14).toNatClampNeg (s 26).toNatClampNeg (s 39).toNatClampNeg k ∨ k = 1000 + (s 6).toNatClampNeg ∨ k = gKey 0 ((s 6).toNatClampNeg + 1) := by
      unfold kLv at h ⊢
      omega
    rcases q with q | q | q
    · exact Or.inl (Or.inl (Or.inr q))
    · exact Or.inl (Or.inr q)
    · exact Or.inr q
theorem kJ_a0 {l0 : Nat → Prop} {ce0 : Nat → va_E} {ad ad1 : Nat → Nat} {eA : Nat} {cI cB cO cR : ClassId} {s : Nat → Int32} {r : Nat → Nat → Int32} (h0 : 0 ≤ (s 6).toInt) (h1 : (s 6).toInt < 60) (ha : ∀ j, lvC l0 s j ∨ j = 1000 + (s 6).toNatClampNeg → ad1 j = ad j) {k : Nat} (h : lvC l0 (upd (upd s 121 (s 121 + 1)) 6 (s 6 + 1)) k) : kJ ce0 ad1 eA cI cB cO cR (upd (upd s 121 (s 121 + 1)) 6 (s 6 + 1)) r k = va_up (va_up (kJ ce0 ad eA cI cB cO cR s r) (gKey 0 ((s 6).toNatClampNeg + 1)) (aRf cO (gCap ((s 6).toNatClampNeg + 1)) (va_up (kRf ad 1000 (s 6).toNatClampNeg) (s 6).toNatClampNeg (some (ad1 (1000 + (s 6).toNatClampNeg)))))) 105 (lOb (s 121 + 1) (ad1 (gKey 0 ((s 6).toNatClampNeg + 1))) (nI (s 6).toNatClampNeg + 1)) k := by
  have hag : ∀ j, kLv (s 6).toNatClampNeg (s 14).toNatClampNeg (s 26).toNatClampNeg (s 39).toNatClampNeg j → ad1 j = ad j := fun j hj => ha j (Or.inl (Or.inr hj))
  have hgb := gCap_b ((s 6).toNatClampNeg + 1)
  have q := lvC_a0 h0 h1
  have hnn : nI (s 6).toNatClampNeg = s 6 := t_ixn h0
  by_cases c1 : k = 105
  · subst c1
    rw [va_up_self, hnn]
    show Sum.inr (0, [Value.int (s 121 + 1), .ref (kEd ad1 eA 0 ((upd (upd s 121 (s 121 + 1)) 6 (s 6 + 1)) 6).toNatClampNeg), .int (s 6 + 1)]) = _
    rw [q.1, kEd_pos (by omega)]
    rfl
  · rw [va_up_ne _ _ c1]
    by_cases c2 : k = gKey 0 ((s 6).toNatClampNeg + 1)
    · subst c2
      rw [va_up_self, kJ_la0, q.1]
      show aRf cO (gCap ((s 6).toNatClampNeg + 1)) (kRf ad1 1000 ((s 6).toNatClampNeg + 1)) = _
      congr 1
      funext i
      by_cases z : i = (s 6).toNatClampNeg
      · subst z
        rw [va_up_self]
        exact if_pos (by omega)
      · rw [va_up_ne _ _ z]
        unfold kRf
        by_cases y : i < (s 6).toNatClampNeg
        · rw [if_pos y, if_pos (by omega), hag (1000 + i) (by unfold kLv; omega)]
        · rw [if_neg y, if_neg (by omega)]
    · rw [va_up_ne _ _ c2, ← kJ_ad hag]
      have hk : ¬ (200 ≤ k ∧ k < 600) := by
        have g0 := gCap_b (s 6).toNatClampNeg
        have g1 := gCap_b (s 14).toNatClampNeg
        have g2 := gCap_b (s 26).toNatClampNeg
        have g3 := gCap_b (s 39).toNatClampNeg
        rcases lvC_w0 h0 h1 h with hz | hz
        · omega
        · unfold kLv gKey at hz
          unfold gKey at c2
          omega
      refine kJ_sg2 k ?_ (fun x9 y9 => ?_)
      · unfold kFx
        rw [if_neg c1, if_neg c1]
        rfl
      · unfold kLa
        by_cases y5 : k < 600
        · rw [if_pos y5, if_pos y5]
          first | exact absurd ⟨by omega, by omega⟩ hk | rfl
        rw [if_neg y5, if_neg y5]
        by_cases y6 : k < 700
        · rw [if_pos y6, if_pos y6]
          first | exact absurd ⟨by omega, by omega⟩ hk | rfl
        rw [if_neg y6, if_neg y6]
        by_cases y7 : k < 800
        · rw [if_pos y7, if_pos y7]
          first | exact absurd ⟨by omega, by omega⟩ hk | rfl
        rw [if_neg y7, if_neg y7]
        first | exact absurd ⟨by omega, by omega⟩ hk | rfl
section MRW
variable {p : Program} {l : Launch} {e : Env} {R : Room} {s0 : State} {m : MethodId} {args : Array Value} {below : List Frame} {meth : Method} {c : Code} {H : Heap} {locs : List Loc} {cells slots : Nat} {Q : State → Prop}
variable {cI cZ cB cO cR cJ : ClassId} {cc : ByteArray} {pc nL : Nat} {ls : Array Slot} {rest st0 st1 : List Value} {D : va_G} {Hb : Heap} {K : kTx} {lv l0 : Nat → Prop} {ad : Nat → Nat} {ce ce' ce0 : Nat → va_E} {Ts : List Cond} {own : String}
/-- a new thing is added to its list -/
theorem z_add0 {index : Nat} (S : kX p m c cc nL s0 args Ts own D (tyL cI cZ cB cO cR cJ) Hb K) (s : Nat → Int32) (r : Nat → Nat → Int32) (hcB : cBd s) (h1 : (s 6).toInt < 60) (hG : gW D Hb (fun j => lvC l0 s j ∨ j = 1000 + (s 6).toNatClampNeg) ad (kJ ce0 ad K.2.2.1 cI cB cO cR s r) H) (hL : gL Hb locs) (gd : GoodIn Ts (wsV own index "java/util/ArrayList" yJx4a65c_add_9ea2d wsJx4a65c_add_9ea2d)) (hR : 6 + 1 ≤ R.frames ∧ 8 + (2 + 11) + 156 ≤ R.locals) (hsize : ls.size = nL) (hW : (rest.map fun v => v.category).sum ≤ 8) (hdg : decode cc pc = .ok (.invokevirtual index, 3)) (hf : cells + 1 ≤ R.cells ∧ slots + 73 ≤ R.slots)
    (kk : ∀ (ad1 : Nat → Nat) (H1 : Heap) (locs1 : List Loc), (∀ j, lvC l0 s j ∨ j = 1000 + (s 6).toNatClampNeg → ad1 j = ad j) → gW D Hb (lvC l0 (upd (upd s 121 (s 121 + 1)) 6 (s 6 + 1))) ad1 (kJ ce0 ad1 K.2.2.1 cI cB cO cR (upd (upd s 121 (s 121 + 1)) 6 (s 6 + 1)) r) H1 → gL Hb locs1 → W p l e R s0 m args below meth c H1 locs1 (cells + 1) (slots + 73) Q (F0 m (pc + 3) ls (.int 1 :: rest))) : W p l e R s0 m args below meth c H locs cells slots Q (F0 m pc ls (.ref (ad (1000 + (s 6).toNatClampNeg)) :: .ref (ad 105) :: rest)) := by
  have h0 : 0 ≤ (s 6).toInt := hcB.1.1
  have hnn : nI (s 6).toNatClampNeg = s 6 := t_ixn h0
  have hn60 : (s 6).toNatClampNeg < 60 := by { have a := t_ix h0; omega }
  have hlk : lvC l0 s 105 := Or.inr (Or.inl ⟨by decide, by decide⟩)
  have hob : kJ ce0 ad K.2.2.1 cI cB cO cR s r (1000 + (s 6).toNatClampNeg) = kHv r (s 6).toNatClampNeg := kJ_hv (by omega)
  have hnb : ∀ N, 510 ≤ gKey 0 N ∧ gKey 0 N ≤ 873 := fun N => by { have g := gCap_b N; unfold gKey; omega }
  have hne : ¬ 1000 + (s 6).toNatClampNeg = 105 := by omega
  have hg0 := gCap_b (s 6).toNatClampNeg
  have hg1 := gCap_b (s 14).toNatClampNeg
  have hg2 := gCap_b (s 26).toNatClampNeg
  have hg3 := gCap_b (s 39).toNatClampNeg
  have hfr : ∀ N, ¬ gKey 0 N = gKey 0 (s 6).toNatClampNeg ∨ (s 6).toNatClampNeg = 0 → ¬ (lvC l0 s (gKey 0 N) ∨ gKey 0 N = 1000 + (s 6).toNatClampNeg) := fun N hN hz => by
    have hb := hnb N
    have hgN := gCap_b N
    rcases hz with (hz | hz) | hz
    · omega
    · unfold kLv gKey at hz
      unfold gKey at hN
      omega
    · omega
  by_cases c0 : (s 6).toNatClampNeg = 0
  · have hE : kEd ad K.2.2.1 0 (s 6).toNatClampNeg = K.2.2.1 := if_pos c0
    have hel0 : kJ ce0 ad K.2.2.1 cI cB cO cR s r 105 = lOb (s 121) K.2.2.1 (nI (s 6).toNatClampNeg) := by
      rw [hnn]
      show Sum.inr (0, [Value.int (s 121), .ref (kEd ad K.2.2.1 0 (s 6).toNatClampNeg), .int (s 6)]) = _
      rw [hE]
      rfl
    refine n_callV (n := 1) (As := [.ref (ad (1000 + (s 6).toNatClampNeg))]) (rest := rest) (k := 105) (ci := 0) S hG hL (Or.inl hlk) hel0 rfl (c_add0 105 (gKey 0 ((s 6).toNatClampNeg + 1)) (s 6).toNatClampNeg (s 121) (Or.inl hlk) (hfr _ (Or.inr c0)) hel0 (1000 + (s 6).toNatClampNeg) (Or.inr rfl) hob rfl (by decide +kernel) hne c0) gd rfl ⟨rfl, rfl⟩ (by decide +kernel) hR rfl hsize rfl hW hdg hf (fun ad1 H1 locs1 ha hG1 hL1 => kk ad1 H1 locs1 ha (hG1.re (fun k hk => lvC_i0 h0 h1 hk) (fun _ _ => rfl) (fun k hk => ?_)) hL1)
    rw [kJ_a0 h0 h1 ha hk]
    have e1 : (fun _ => none : Nat → Option Nat) = kRf ad 1000 (s 6).toNatClampNeg := by { funext i; exact (if_neg (by omega)).symm }
    have e2 : gCap ((s 6).toNatClampNeg + 1) = 10 := by { rw [c0]; rfl }
    rw [e1, e2]
  · have hpos : 0 < (s 6).toNatClampNeg := by omega
    have hE : kEd ad K.2.2.1 0 (s 6).toNatClampNeg = ad (gKey 0 (s 6).toNatClampNeg) := kEd_pos hpos
    have hka : lvC l0 s (gKey 0 (s 6).toNatClampNeg) := Or.inr (by { unfold kLv; omega })
    have hel0 : kJ ce0 ad K.2.2.1 cI cB cO cR s r 105 = lOb (s 121) (ad (gKey 0 (s 6).toNatClampNeg)) (nI (s 6).toNatClampNeg) := by
      rw [hnn]
      show Sum.inr (0, [Value.int (s 121), .ref (kEd ad K.2.2.1 0 (s 6).toNatClampNeg), .int (s 6)]) = _
      rw [hE]
      rfl
    have hkL : ¬ gKey 0 (s 6).toNatClampNeg = 105 := by { have g := hnb (s 6).toNatClampNeg; omega }
    have hea : kJ ce0 ad K.2.2.1 cI cB cO cR s r (gKey 0 (s 6).toNatClampNeg) = aRf cO (gCap (s 6).toNatClampNeg) (kRf ad 1000 (s 6).toNatClampNeg) := kJ_la0
    by_cases c5 : g5 (s 6).toNatClampNeg
    · have hb5 := g5_b c5
      have hea5 : kJ ce0 ad K.2.2.1 cI cB cO cR s r (gKey 0 (s 6).toNatClampNeg) = aRf cO (s 6).toNatClampNeg (kRf ad 1000 (s 6).toNatClampNeg) := by { rw [hea, hb5.2.2.2.2] }
      refine n_callV (n := 1) (As := [.ref (ad (1000 + (s 6).toNatClampNeg))]) (rest := rest) (k := 105) (ci := 0) S hG hL (Or.inl hlk) hel0 rfl (c_addN 105 (gKey 0 ((s 6).toNatClampNeg + 1)) (s 6).toNatClampNeg (s 121) (Or.inl hlk) (hfr _ (Or.inl (by unfold gKey; omega))) (gKey 0 (s 6).toNatClampNeg) hel0 (1000 + (s 6).toNatClampNeg) (Or.inr rfl) hob rfl (by decide +kernel) hne (Or.inl hka) hkL c5 hea5 (fun i y hi hy => ⟨1000 + i, _, by omega, Or.inl (Or.inr (by { unfold kLv; omega })), (Option.some.inj (hy.symm.trans (if_pos hi))), kJ_hv (by omega)⟩)) gd rfl ⟨rfl, rfl⟩ (by decide +kernel) hR rfl hsize rfl hW hdg hf (fun ad1 H1 locs1 ha hG1 hL1 => kk ad1 H1 locs1 ha (hG1.re (fun k hk => lvC_i0 h0 h1 hk) (fun _ _ => rfl) (fun k hk => ?_)) hL1)
      rw [kJ_a0 h0 h1 ha hk]
      have e1 : (fun i => if i < (s 6).toNatClampNeg then kRf ad 1000 (s 6).toNatClampNeg i else none : Nat → Option Nat) = kRf ad 1000 (s 6).toNatClampNeg := by
        funext i
        by_cases z : i < (s 6).toNatClampNeg
        · exact if_pos z
        · rw [if_neg z]; exact (if_neg z).symm
      rw [e1]
    · have hp := gCap_p c0 c5 hn60
      have hkk : gKey 0 ((s 6).toNatClampNeg + 1) = gKey 0 (s 6).toNatClampNeg := by { unfold gKey; rw [hp.2] }
      refine k_callV (n := 1) (As := [.ref (ad (1000 + (s 6).toNatClampNeg))]) (rest := rest) (st1 := .int 1 :: rest) (k := 105) (ci := 0) S hG hL (Or.inl hlk) hel0 rfl (c_addP 105 (gKey 0 (s 6).toNatClampNeg) (s 6).toNatClampNeg (gCap (s 6).toNatClampNeg) (s 121) (Or.inl hlk) (Or.inl hka) hkL hp.1 (gCap_b _).2 hel0 hea (1000 + (s 6).toNatClampNeg) (Or.inr rfl) hob rfl (by decide +kernel) hne) gd rfl ⟨rfl, rfl⟩ (by decide +kernel) hR rfl hsize rfl hW hdg hf rfl (fun H1 locs1 hG1 hL1 => kk ad H1 locs1 (fun _ _ => rfl) (hG1.re (fun k hk => ?_) (fun _ _ => rfl) (fun k hk => ?_)) hL1)
      · rcases lvC_i0 h0 h1 hk with z | z
        · exact z
        · rw [z, hkk]; exact Or.inl hka
      · rw [kJ_a0 h0 h1 (fun _ _ => rfl) hk, hkk, hp.2]
end MRW
