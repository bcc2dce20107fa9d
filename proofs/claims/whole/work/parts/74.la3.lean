theorem lvC_a3 {s : Nat → Int32} (h0 : 0 ≤ (s 39).toInt) (h1 : (s 39).toInt < 60) : ((upd (upd s 124 (s 124 + 1)) 39 (s 39 + 1)) 39).toNatClampNeg = (s 39).toNatClampNeg + 1 ∧ ((upd (upd s 124 (s 124 + 1)) 39 (s 39 + 1)) 6) = s 6 ∧ ((upd (upd s 124 (s 124 + 1)) 39 (s 39 + 1)) 14) = s 14 ∧ ((upd (upd s 124 (s 124 + 1)) 39 (s 39 + 1)) 26) = s 26 := by
  refine ⟨?_, rfl, rfl, rfl⟩
  show (s 39 + 1).toNatClampNeg = _
  have q := p1 h0 (by omega)
  have a := t_ix h0
  have b := t_ix (x := s 39 + 1) (by omega)
  omega
theorem lvC_w3 {l0 : Nat → Prop} {s : Nat → Int32} (h0 : 0 ≤ (s 39).toInt) (h1 : (s 39).toInt < 60) {k : Nat} (h : lvC l0 (upd (upd s 124 (s 124 + 1)) 39 (s 39 + 1)) k) : (k < 100 ∧ l0 k) ∨ kLv (s 6).toNatClampNeg (s 14).toNatClampNeg (s 26).toNatClampNeg ((s 39).toNatClampNeg + 1) k := by
  have q := lvC_a3 h0 h1
  unfold lvC at h
  rw [q.1, q.2.1, q.2.2.1, q.2.2.2] at h
  exact h
theorem lvC_i3 {l0 : Nat → Prop} {s : Nat → Int32} (h0 : 0 ≤ (s 39).toInt) (h1 : (s 39).toInt < 60) {k : Nat} (h : lvC l0 (upd (upd s 124 (s 124 + 1)) 39 (s 39 + 1)) k) : (lvC l0 s k ∨ k = 4000 + (s 39).toNatClampNeg) ∨ k = gKey 3 ((s 39).toNatClampNeg + 1) := by
  rcases lvC_w3 h0 h1 h with h | h
  · exact Or.inl (Or.inl (Or.inl h))
  · have q : kLv (s 6).toNatClampNeg (s 14).toNatClampNeg (s 26).toNatClampNeg (s 39).toNatClampNeg k ∨ k = 4000 + (s 39).toNatClampNeg ∨ k = gKey 3 ((s 39).toNatClampNeg + 1) := by
      unfold kLv at h ⊢
      omega
    rcases q with q | q | q
    · exact Or.inl (Or.inl (Or.inr q))
    · exact Or.inl (Or.inr q)
    · exact Or.inr q
theorem kJ_a3 {l0 : Nat → Prop} {ce0 : Nat → va_E} {ad ad1 : Nat → Nat} {eA : Nat} {cI cB cO cR : ClassId} {s : Nat → Int32} {r : Nat → Nat → Int32} (h0 : 0 ≤ (s 39).toInt) (h1 : (s 39).toInt < 60) (ha : ∀ j, lvC l0 s j ∨ j = 4000 + (s 39).toNatClampNeg → ad1 j = ad j) {k : Nat} (h : lvC l0 (upd (upd s 124 (s 124 + 1)) 39 (s 39 + 1)) k) : kJ ce0 ad1 eA cI cB cO cR (upd (upd s 124 (s 124 + 1)) 39 (s 39 + 1)) r k = va_up (va_up (kJ ce0 ad eA cI cB cO cR s r) (gKey 3 ((s 39).toNatClampNeg + 1)) (aRf cO (gCap ((s 39).toNatClampNeg + 1)) (va_up (kRf ad 4000 (s 39).toNatClampNeg) (s 39).toNatClampNeg (some (ad1 (4000 + (s 39).toNatClampNeg)))))) 108 (lOb (s 124 + 1) (ad1 (gKey 3 ((s 39).toNatClampNeg + 1))) (nI (s 39).toNatClampNeg + 1)) k := by
  have hag : ∀ j, kLv (s 6).toNatClampNeg (s 14).toNatClampNeg (s 26).toNatClampNeg (s 39).toNatClampNeg j → ad1 j = ad j := fun j hj => ha j (Or.inl (Or.inr hj))
  have hgb := gCap_b ((s 39).toNatClampNeg + 1)
  have q := lvC_a3 h0 h1
  have hnn : nI (s 39).toNatClampNeg = s 39 := t_ixn h0
  by_cases c1 : k = 108
  · subst c1
    rw [va_up_self, hnn]
    show Sum.inr (0, [Value.int (s 124 + 1), .ref (kEd ad1 eA 3 ((upd (upd s 124 (s 124 + 1)) 39 (s 39 + 1)) 39).toNatClampNeg), .int (s 39 + 1)]) = _
    rw [q.1, kEd_pos (by omega)]
    rfl
  · rw [va_up_ne _ _ c1]
    by_cases c2 : k = gKey 3 ((s 39).toNatClampNeg + 1)
    · subst c2
      rw [va_up_self, kJ_la3, q.1]
      show aRf cO (gCap ((s 39).toNatClampNeg + 1)) (kRf ad1 4000 ((s 39).toNatClampNeg + 1)) = _
      congr 1
      funext i
      by_cases z : i = (s 39).toNatClampNeg
      · subst z
        rw [va_up_self]
        exact if_pos (by omega)
      · rw [va_up_ne _ _ z]
        unfold kRf
        by_cases y : i < (s 39).toNatClampNeg
        · rw [if_pos y, if_pos (by omega), hag (4000 + i) (by unfold kLv; omega)]
        · rw [if_neg y, if_neg (by omega)]
    · rw [va_up_ne _ _ c2, ← kJ_ad hag]
      have hk : ¬ (800 ≤ k ∧ k < 1000) := by
        have g0 := gCap_b (s 6).toNatClampNeg
        have g1 := gCap_b (s 14).toNatClampNeg
        have g2 := gCap_b (s 26).toNatClampNeg
        have g3 := gCap_b (s 39).toNatClampNeg
        rcases lvC_w3 h0 h1 h with hz | hz
        · omega
        · unfold kLv gKey at hz
          unfold gKey at c2
          omega
      refine kJ_sg2 k ?_ (fun x9 y9 => ?_)
      · unfold kFx
        rw [if_neg c1, if_neg c1]
        rfl
      · unfold kLa
        by_cases y5 : k < 600
        · rw [if_pos y5, if_pos y5]
          first | exact absurd ⟨by omega, by omega⟩ hk | rfl
        rw [if_neg y5, if_neg y5]
        by_cases y6 : k < 700
        · rw [if_pos y6, if_pos y6]
          first | exact absurd ⟨by omega, by omega⟩ hk | rfl
        rw [if_neg y6, if_neg y6]
        by_cases y7 : k < 800
        · rw [if_pos y7, if_pos y7]
          first | exact absurd ⟨by omega, by omega⟩ hk | rfl
        rw [if_neg y7, if_neg y7]
        first | exact absurd ⟨by omega, by omega⟩ hk | rfl
section MRW
variable {p : Program} {l : Launch} {e : Env} {R : Room} {s0 : State} {m : MethodId} {args : Array Value} {below : List Frame} {meth : Method} {c : Code} {H : Heap} {locs : List Loc} {cells slots : Nat} {Q : State → Prop}
variable {cI cZ cB cO cR cJ : ClassId} {cc : ByteArray} {pc nL : Nat} {ls : Array Slot} {rest st0 st1 : List Value} {D : va_G} {Hb : Heap} {K : kTx} {lv l0 : Nat → Prop} {ad : Nat → Nat} {ce ce' ce0 : Nat → va_E} {Ts : List Cond} {own : String}
/-- a new thing is added to its list -/
theorem z_add3 {index : Nat} (S : kX p m c cc nL s0 args Ts own D (tyL cI cZ cB cO cR cJ) Hb K) (s : Nat → Int32) (r : Nat → Nat → Int32) (hcB : cBd s) (h1 : (s 39).toInt < 60) (hG : gW D Hb (fun j => lvC l0 s j ∨ j = 4000 + (s 39).toNatClampNeg) ad (kJ ce0 ad K.2.2.1 cI cB cO cR s r) H) (hL : gL Hb locs) (gd : GoodIn Ts (wsV own index "java/util/ArrayList" yJx4a65c_add_9ea2d wsJx4a65c_add_9ea2d)) (hR : 6 + 1 ≤ R.frames ∧ 8 + (2 + 11) + 156 ≤ R.locals) (hsize : ls.size = nL) (hW : (rest.map fun v => v.category).sum ≤ 8) (hdg : decode cc pc = .ok (.invokevirtual index, 3)) (hf : cells + 1 ≤ R.cells ∧ slots + 73 ≤ R.slots)
    (kk : ∀ (ad1 : Nat → Nat) (H1 : Heap) (locs1 : List Loc), (∀ j, lvC l0 s j ∨ j = 4000 + (s 39).toNatClampNeg → ad1 j = ad j) → gW D Hb (lvC l0 (upd (upd s 124 (s 124 + 1)) 39 (s 39 + 1))) ad1 (kJ ce0 ad1 K.2.2.1 cI cB cO cR (upd (upd s 124 (s 124 + 1)) 39 (s 39 + 1)) r) H1 → gL Hb locs1 → W p l e R s0 m args below meth c H1 locs1 (cells + 1) (slots + 73) Q (F0 m (pc + 3) ls (.int 1 :: rest))) : W p l e R s0 m args below meth c H locs cells slots Q (F0 m pc ls (.ref (ad (4000 + (s 39).toNatClampNeg)) :: .ref (ad 108) :: rest)) := by
  have h0 : 0 ≤ (s 39).toInt := hcB.2.2.2.1
  have hnn : nI (s 39).toNatClampNeg = s 39 := t_ixn h0
  have hn60 : (s 39).toNatClampNeg < 60 := by { have a := t_ix h0; omega }
  have hlk : lvC l0 s 108 := Or.inr (Or.inl ⟨by decide, by decide⟩)
  have hob : kJ ce0 ad K.2.2.1 cI cB cO cR s r (4000 + (s 39).toNatClampNeg) = kCa r (s 39).toNatClampNeg := kJ_ca (by omega)
  have hnb : ∀ N, 510 ≤ gKey 3 N ∧ gKey 3 N ≤ 873 := fun N => by { have g := gCap_b N; unfold gKey; omega }
  have hne : ¬ 4000 + (s 39).toNatClampNeg = 108 := by omega
  have hg0 := gCap_b (s 6).toNatClampNeg
  have hg1 := gCap_b (s 14).toNatClampNeg
  have hg2 := gCap_b (s 26).toNatClampNeg
  have hg3 := gCap_b (s 39).toNatClampNeg
  have hfr : ∀ N, ¬ gKey 3 N = gKey 3 (s 39).toNatClampNeg ∨ (s 39).toNatClampNeg = 0 → ¬ (lvC l0 s (gKey 3 N) ∨ gKey 3 N = 4000 + (s 39).toNatClampNeg) := fun N hN hz => by
    have hb := hnb N
    have hgN := gCap_b N
    rcases hz with (hz | hz) | hz
    · omega
    · unfold kLv gKey at hz
      unfold gKey at hN
      omega
    · omega
  by_cases c0 : (s 39).toNatClampNeg = 0
  · have hE : kEd ad K.2.2.1 3 (s 39).toNatClampNeg = K.2.2.1 := if_pos c0
    have hel0 : kJ ce0 ad K.2.2.1 cI cB cO cR s r 108 = lOb (s 124) K.2.2.1 (nI (s 39).toNatClampNeg) := by
      rw [hnn]
      show Sum.inr (0, [Value.int (s 124), .ref (kEd ad K.2.2.1 3 (s 39).toNatClampNeg), .int (s 39)]) = _
      rw [hE]
      rfl
    refine n_callV (n := 1) (As := [.ref (ad (4000 + (s 39).toNatClampNeg))]) (rest := rest) (k := 108) (ci := 0) S hG hL (Or.inl hlk) hel0 rfl (c_add0 108 (gKey 3 ((s 39).toNatClampNeg + 1)) (s 39).toNatClampNeg (s 124) (Or.inl hlk) (hfr _ (Or.inr c0)) hel0 (4000 + (s 39).toNatClampNeg) (Or.inr rfl) hob rfl (by decide +kernel) hne c0) gd rfl ⟨rfl, rfl⟩ (by decide +kernel) hR rfl hsize rfl hW hdg hf (fun ad1 H1 locs1 ha hG1 hL1 => kk ad1 H1 locs1 ha (hG1.re (fun k hk => lvC_i3 h0 h1 hk) (fun _ _ => rfl) (fun k hk => ?_)) hL1)
    rw [kJ_a3 h0 h1 ha hk]
    have e1 : (fun _ => none : Nat → Option Nat) = kRf ad 4000 (s 39).toNatClampNeg := by { funext i; exact (if_neg (by omega)).symm }
    have e2 : gCap ((s 39).toNatClampNeg + 1) = 10 := by { rw [c0]; rfl }
    rw [e1, e2]
  · have hpos : 0 < (s 39).toNatClampNeg := by omega
    have hE : kEd ad K.2.2.1 3 (s 39).toNatClampNeg = ad (gKey 3 (s 39).toNatClampNeg) := kEd_pos hpos
    have hka : lvC l0 s (gKey 3 (s 39).toNatClampNeg) := Or.inr (by { unfold kLv; omega })
    have hel0 : kJ ce0 ad K.2.2.1 cI cB cO cR s r 108 = lOb (s 124) (ad (gKey 3 (s 39).toNatClampNeg)) (nI (s 39).toNatClampNeg) := by
      rw [hnn]
      show Sum.inr (0, [Value.int (s 124), .ref (kEd ad K.2.2.1 3 (s 39).toNatClampNeg), .int (s 39)]) = _
      rw [hE]
      rfl
    have hkL : ¬ gKey 3 (s 39).toNatClampNeg = 108 := by { have g := hnb (s 39).toNatClampNeg; omega }
    have hea : kJ ce0 ad K.2.2.1 cI cB cO cR s r (gKey 3 (s 39).toNatClampNeg) = aRf cO (gCap (s 39).toNatClampNeg) (kRf ad 4000 (s 39).toNatClampNeg) := kJ_la3
    by_cases c5 : g5 (s 39).toNatClampNeg
    · have hb5 := g5_b c5
      have hea5 : kJ ce0 ad K.2.2.1 cI cB cO cR s r (gKey 3 (s 39).toNatClampNeg) = aRf cO (s 39).toNatClampNeg (kRf ad 4000 (s 39).toNatClampNeg) := by { rw [hea, hb5.2.2.2.2] }
      refine n_callV (n := 1) (As := [.ref (ad (4000 + (s 39).toNatClampNeg))]) (rest := rest) (k := 108) (ci := 0) S hG hL (Or.inl hlk) hel0 rfl (c_addN 108 (gKey 3 ((s 39).toNatClampNeg + 1)) (s 39).toNatClampNeg (s 124) (Or.inl hlk) (hfr _ (Or.inl (by unfold gKey; omega))) (gKey 3 (s 39).toNatClampNeg) hel0 (4000 + (s 39).toNatClampNeg) (Or.inr rfl) hob rfl (by decide +kernel) hne (Or.inl hka) hkL c5 hea5 (fun i y hi hy => ⟨4000 + i, _, by omega, Or.inl (Or.inr (by { unfold kLv; omega })), (Option.some.inj (hy.symm.trans (if_pos hi))), kJ_ca (by omega)⟩)) gd rfl ⟨rfl, rfl⟩ (by decide +kernel) hR rfl hsize rfl hW hdg hf (fun ad1 H1 locs1 ha hG1 hL1 => kk ad1 H1 locs1 ha (hG1.re (fun k hk => lvC_i3 h0 h1 hk) (fun _ _ => rfl) (fun k hk => ?_)) hL1)
      rw [kJ_a3 h0 h1 ha hk]
      have e1 : (fun i => if i < (s 39).toNatClampNeg then kRf ad 4000 (s 39).toNatClampNeg i else none : Nat → Option Nat) = kRf ad 4000 (s 39).toNatClampNeg := by
        funext i
        by_cases z : i < (s 39).toNatClampNeg
        · exact if_pos z
        · rw [if_neg z]; exact (if_neg z).symm
      rw [e1]
    · have hp := gCap_p c0 c5 hn60
      have hkk : gKey 3 ((s 39).toNatClampNeg + 1) = gKey 3 (s 39).toNatClampNeg := by { unfold gKey; rw [hp.2] }
      refine k_callV (n := 1) (As := [.ref (ad (4000 + (s 39).toNatClampNeg))]) (rest := rest) (st1 := .int 1 :: rest) (k := 108) (ci := 0) S hG hL (Or.inl hlk) hel0 rfl (c_addP 108 (gKey 3 (s 39).toNatClampNeg) (s 39).toNatClampNeg (gCap (s 39).toNatClampNeg) (s 124) (Or.inl hlk) (Or.inl hka) hkL hp.1 (gCap_b _).2 hel0 hea (4000 + (s 39).toNatClampNeg) (Or.inr rfl) hob rfl (by decide +kernel) hne) gd rfl ⟨rfl, rfl⟩ (by decide +kernel) hR rfl hsize rfl hW hdg hf rfl (fun H1 locs1 hG1 hL1 => kk ad H1 locs1 (fun _ _ => rfl) (hG1.re (fun k hk => ?_) (fun _ _ => rfl) (fun k hk => ?_)) hL1)
      · rcases lvC_i3 h0 h1 hk with z | z
        · exact z
        · rw [z, hkk]; exact Or.inl hka
      · rw [kJ_a3 h0 h1 (fun _ _ => rfl) hk, hkk, hp.2]
end MRW
