/-! rows with a place by a number -/
section MRZ
variable {p : Program} {l : Launch} {e : Env} {R : Room} {s : State} {m : MethodId} {args : Array Value} {below : List Frame} {meth : Method} {c : Code} {H : Heap} {locs : List Loc} {cells slots : Nat} {Q : State → Prop}
variable {cc : ByteArray} {pc nL : Nat} {ls : Array Slot} {rest st0 : List Value} {D : va_G} {cI cZ cB cO cR cJ : ClassId} {Hb : Heap} {lv : Nat → Prop} {ad : Nat → Nat} {ce0 : Nat → va_E} {Ts : List Cond} {sm sm2 : Nat → Int32} {rm : Nat → Nat → Int32}
theorem m_ldj {j : Nat} (S : mX p m c cc nL s args Ts D cI cZ cB cO cR cJ lv) (hG : gW D Hb lv ad (mJ ce0 ad cI cZ sm rm) H) (f : Nat) (hf : mIa f = true) {i : Int32} (hj : i.toNatClampNeg = j) (hin : vp_in i (mLen f)) (hdg : decode cc pc = .ok (.iaload, 1)) {v : Int32} (hv : rm f j = v)
    (kk : W p l e R s m args below meth c H locs cells slots Q (F0 m (pc + 1) ls (.int v :: rest))) : W p l e R s m args below meth c H locs cells slots Q (F0 m pc ls (.int i :: .ref (ad (f + 1)) :: rest)) :=
  m_ld S hG f hf hin hdg (by rw [hj]; exact hv) kk
theorem m_zldj {j : Nat} (S : mX p m c cc nL s args Ts D cI cZ cB cO cR cJ lv) (hG : gW D Hb lv ad (mJ ce0 ad cI cZ sm rm) H) (f : Nat) (hf : mIz f = true) {i : Int32} (hj : i.toNatClampNeg = j) (hin : vp_in i (mLen f)) (hdg : decode cc pc = .ok (.baload, 1)) {v : Int32} (hv : rm f j = v)
    (kk : W p l e R s m args below meth c H locs cells slots Q (F0 m (pc + 1) ls (.int v :: rest))) : W p l e R s m args below meth c H locs cells slots Q (F0 m pc ls (.int i :: .ref (ad (f + 1)) :: rest)) :=
  m_zld S hG f hf hin hdg (by rw [hj]; exact hv) kk
theorem m_stj {j : Nat} (S : mX p m c cc nL s args Ts D cI cZ cB cO cR cJ lv) (hG : gW D Hb lv ad (mJ ce0 ad cI cZ sm rm) H) (hL : gL Hb locs) (f : Nat) (hf : mIa f = true) {i x : Int32} (hj : i.toNatClampNeg = j) (hin : vp_in i (mLen f)) (hdg : decode cc pc = .ok (.iastore, 1))
    (kk : ∀ (H1 : Heap) (locs1 : List Loc), gW D Hb lv ad (mJ ce0 ad cI cZ sm (up2 rm f j x)) H1 → gL Hb locs1 → W p l e R s m args below meth c H1 locs1 cells slots Q (F0 m (pc + 1) ls rest)) : W p l e R s m args below meth c H locs cells slots Q (F0 m pc ls (.int x :: .int i :: .ref (ad (f + 1)) :: rest)) :=
  m_st S hG hL f hf hin hdg (by rw [hj]; exact kk)
end MRZ
/-! counts, lines, the case that is alike, the hive that a swarm left -/
def cnS (r : Nat → Nat → Int32) (st : Int32) : Nat → Int32
  | 0 => 0
  | n + 1 => cnS r st n + (if r 15 n = st then 1 else 0)
def lof (r : Nat → Nat → Int32) (d z : Int32) : Nat → Int32
  | 0 => z
  | n + 1 => if r 54 n = d then nI n else lof r d z n
def fLi (d : Int32) (s : Nat → Int32) (r : Nat → Nat → Int32) : Int32 := lof r d (lof r 16 (-1) (s 52).toNatClampNeg) (s 52).toNatClampNeg
def mtP (s : Nat → Int32) (r : Nat → Nat → Int32) (j : Nat) : Bool := if 2 ≤ r 41 j then false else if 1 < fSt (r 42 j) (r 43 j) (r 65 (Int32.toNatClampNeg 0)) (r 65 (Int32.toNatClampNeg 1)) then false else if 6 < s 1 - r 49 j then false else if r 65 (Int32.toNatClampNeg 4) = 0 then true else if r 47 j = 0 then true else if r 65 (Int32.toNatClampNeg 4) = r 47 j then true else false
def fMt (s : Nat → Int32) (r : Nat → Nat → Int32) : Int32 := fF (mtP s r) (s 39).toNatClampNeg 0
def agP (sw : Int32) (r : Nat → Nat → Int32) (h : Int32) : Int32 := if r 13 (Int32.toNatClampNeg h) = -1 then 0 else if r 24 (Int32.toNatClampNeg sw) < r 13 (Int32.toNatClampNeg h) then 0 else if r 24 (Int32.toNatClampNeg sw) - r 13 (Int32.toNatClampNeg h) ≤ 60 then (if 3 < fSt (r 7 (Int32.toNatClampNeg h)) (r 8 (Int32.toNatClampNeg h)) (r 18 (Int32.toNatClampNeg sw)) (r 19 (Int32.toNatClampNeg sw)) then 0 else if r 47 (Int32.toNatClampNeg (r 25 (Int32.toNatClampNeg sw))) = 0 then 1 else if r 47 (Int32.toNatClampNeg (r 25 (Int32.toNatClampNeg sw))) = r 11 (Int32.toNatClampNeg h) then 1 else 0) else 0
/-- the last hive that agrees, and how many do -/
def ogF (sw : Int32) (r : Nat → Nat → Int32) : Nat → Int32
  | 0 => -1
  | n + 1 => if agP sw r (nI n) = 0 then ogF sw r n else nI n
def ogM (sw : Int32) (r : Nat → Nat → Int32) : Nat → Int32
  | 0 => 0
  | n + 1 => if agP sw r (nI n) = 0 then ogM sw r n else ogM sw r n + 1
def kOg (sw : Int32) (s : Nat → Int32) (r : Nat → Nat → Int32) : Int32 := if fIs (s 14) sw = 0 then 1 else if r 15 (Int32.toNatClampNeg sw) = 1 then 0 else 2
def vOg (sw : Int32) (s : Nat → Int32) (r : Nat → Nat → Int32) : Int32 := if fIs (s 14) sw = 0 then 0 else if r 15 (Int32.toNatClampNeg sw) = 1 then (if ogM sw r (s 6).toNatClampNeg = 1 then ogF sw r (s 6).toNatClampNeg else -1) else 0
def opN (r : Nat → Nat → Int32) : Nat → Int32
  | 0 => 0
  | n + 1 => opN r n + (if r 41 n = 0 then 1 else 0)
def hbN (r : Nat → Nat → Int32) : Nat → Int32
  | 0 => 0
  | n + 1 => hbN r n + r 9 n
def sbN (r : Nat → Nat → Int32) (z : Int32) : Nat → Int32
  | 0 => z
  | n + 1 => sbN r z n + (if 2 ≤ r 15 n then 0 else r 17 n)
def beN (s : Nat → Int32) (r : Nat → Nat → Int32) : Int32 := sbN r (hbN r (s 6).toNatClampNeg) (s 14).toNatClampNeg
def vCn (w : Int32) (s : Nat → Int32) (r : Nat → Nat → Int32) : Int32 := if w = 0 then s 1 else if w = 1 then s 6 else if w = 2 then s 14 else if w = 3 then s 26 else if w = 4 then s 39 else if w = 5 then s 40 else if w = 6 then s 52 else if w = 7 then cnS r 0 (s 14).toNatClampNeg else if w = 8 then cnS r 1 (s 14).toNatClampNeg else if w = 9 then cnS r 2 (s 14).toNatClampNeg else if w = 10 then opN r (s 39).toNatClampNeg else if w = 11 then beN s r else -1
theorem vCn_out {w : Int32} (h : w.toInt < 0 ∨ 11 < w.toInt) (s : Nat → Int32) (r : Nat → Nat → Int32) : vCn w s r = -1 := by
  have q : ∀ v : Int32, 0 ≤ v.toInt → v.toInt ≤ 11 → ¬ w = v := fun v a b e => by subst e; omega
  simp only [vCn, eq_false (q 0 (by decide) (by decide)), eq_false (q 1 (by decide) (by decide)), eq_false (q 2 (by decide) (by decide)), eq_false (q 3 (by decide) (by decide)), eq_false (q 4 (by decide) (by decide)), eq_false (q 5 (by decide) (by decide)), eq_false (q 6 (by decide) (by decide)), eq_false (q 7 (by decide) (by decide)), eq_false (q 8 (by decide) (by decide)), eq_false (q 9 (by decide) (by decide)), eq_false (q 10 (by decide) (by decide)), eq_false (q 11 (by decide) (by decide)), ↓reduceIte]
set_option maxHeartbeats 4000000 in
set_option maxRecDepth 100000 in
theorem c_X10_inState {l : Launch} {D : va_G} {cI cZ cB cO cR cJ : ClassId} {Hb : Heap} {lv : Nat → Prop} {ad : Nat → Nat} {ce0 : Nat → va_E} (hlv : lM lv) (st : Int32) (s : Nat → Int32) (r : Nat → Nat → Int32) (h0 : 0 ≤ (s 14).toInt) (h1 : (s 14).toInt ≤ 60) : mMet l D cI cZ cB cO cR cJ Hb lv ad ce0 yX10_inState wsX10_inState 0 0 [.ref (ad 0), .int st] s r (some (.int (cnS r st (s 14).toNatClampNeg))) s r := by
  refine Met.ofW (cc := cX10_inState) (maxL := 4) (ret := (some .int)) (by decide) rfl ?_
  intro p0 e0 s0 m0 args below meth c0 s₁ B hml hv
  obtain ⟨rfl, hG, hK⟩ := hv
  have hx := B.exec
  have hb := B.bytes
  have hr := B.returns
  have hts := atoms_spec (ws := wsX10_inState) B.pre
  have hown : s0.vm.findClass RX10 = some m0.cls := findClass_of_methodNamed B.named
  have hlocks := B.notSynchronized
  have S : mX p0 m0 c0 cX10_inState 4 s0 _ wsX10_inState D cI cZ cB cO cR cJ lv := ⟨⟨hx, hb, hml, hown, hts⟩, hK, fun w h => List.mem_cons_of_mem _ (List.mem_append_right _ h), hlv⟩
  have hL : gL Hb [] := gL.nil
  have hl := lv_entry ([.ref (ad 0), .int st]) (n := 4) (Nat.le_of_ble_eq_true rfl)
  rw [lg_entry_eq]
  generalize (lg_sl ([.ref (ad 0), .int st]) ++ List.replicate (4 - (lg_sl ([.ref (ad 0), .int st])).length) Slot.unset).toArray = ls at hl ⊢
  have hl : lv_has ls 4 [(0, .ref (ad 0)), (1, .int st)] := hl
  refine lv_iconst (v := 0) hx hb dX10_inState_0 (by decide) ?_
  refine lv_istore_n (lv' := [(2, .int 0), (0, .ref (ad 0)), (1, .int st)]) hx hb dX10_inState_1 rfl hl (by decide) rfl (fun ls hl => ?_)
  refine lv_iconst (v := 0) hx hb dX10_inState_2 (by decide) ?_
  refine lv_istore_n (lv' := [(3, .int 0), (2, .int 0), (0, .ref (ad 0)), (1, .int st)]) hx hb dX10_inState_3 rfl hl (by decide) rfl (fun ls hl => ?_)
  have LP : ∀ (n : Nat) (i : Nat) (x : Int32) (a : Int32) (ex : x = nI i) (hi : i ≤ (s 14).toNatClampNeg) (hn : (s 14).toNatClampNeg + 1 ≤ i + n) (ha : a = cnS r st i), ∀ (H : Heap) (locs : List Loc), gW D Hb lv ad (mJ ce0 ad cI cZ s r) H → gL Hb locs → ∀ (ls : Array Slot), lv_has ls 4 [(0, .ref (ad 0)), (1, .int st), (2, .int a), (3, .int x)] → W p0 l e0 (headSpec wsX10_inState { frames := 0, cells := 0, slots := 0, locals := 0 }).room s0 m0 ([.ref (ad 0), .int st] : List Value).toArray below meth c0 H locs 0 0 (MQ below (gQ D Hb lv ad (some (.int (cnS r st (s 14).toNatClampNeg))) (mJ ce0 ad cI cZ s r)) ([.ref (ad 0), .int st] : List Value).toArray s0 0 0 (gA Hb)) (F0 m0 4 ls []) := by
    intro n
    induction n with
    | zero => intro i x a ex hi hn ha; exact absurd hn (by omega)
    | succ n ih =>
      intro i x a ex hi hn ha H locs hG hL ls hl
      have hbd : (s 14).toNatClampNeg ≤ 60 := t_ixl h0 h1; have hii : Int32.toNatClampNeg x = i := by { rw [ex]; exact ix_nI (by omega) }
      refine lv_iload_n hx hb dX10_inState_4 rfl (lv_at hl 3 rfl) ?_
      refine lv_aload_n hx hb dX10_inState_5 rfl (lv_at hl 0 rfl) ?_
      refine m_gi (v := s 14) S hG 14 rfl (hts (.fieldLink RX10 186 "SwarmLineModel" "swarms" "I") (by decide +kernel)) dX10_inState_6 rfl ?_
      refine lv_icmp_ge (tgt := 36) hx hb dX10_inState_9 (by decide) (fun c9 => ?_) (fun c9 => ?_)
      ·
        have hEq := cl_ge h0 hi (ex ▸ c9)
        refine lv_iload_n hx hb dX10_inState_36 rfl (lv_at hl 2 rfl) ?_
        exact m_iret S hr hlocks hG hL dX10_inState_37 (by rw [ha, hEq]) (by rfl) (by rfl)
      ·
        have hlt := cl_lt h0 hi (ex ▸ c9)
        refine lv_iload_n hx hb dX10_inState_12 rfl (lv_at hl 2 rfl) ?_
        refine lv_aload_n hx hb dX10_inState_13 rfl (lv_at hl 0 rfl) ?_
        refine m_ga S hG 15 rfl (hts (.fieldLink RX10 43 "SwarmLineModel" "swarmState" "[I") (by decide +kernel)) dX10_inState_14 ?_
        refine lv_iload_n hx hb dX10_inState_17 rfl (lv_at hl 3 rfl) ?_
        refine m_ldj (j := i) (v := r 15 i) S hG 15 rfl hii (show vp_in x 60 from by rw [ex]; exact vp_in_i (by omega) (by omega)) dX10_inState_18 (rfl) ?_
        refine lv_iload_n hx hb dX10_inState_19 rfl (lv_at hl 1 rfl) ?_
        refine lv_icmp_ne (tgt := 27) hx hb dX10_inState_20 (by decide) (fun c20 => ?_) (fun c20 => ?_)
        ·
          refine lv_iconst (v := 0) hx hb dX10_inState_27 (by decide) ?_
          refine lv_iadd hx hb dX10_inState_28 ?_
          refine lv_istore_n (lv' := [(2, .int (a + 0)), (0, .ref (ad 0)), (1, .int st), (3, .int x)]) hx hb dX10_inState_29 rfl hl (by decide) rfl (fun ls hl => ?_)
          refine lv_iinc (v := x + 1) (lv' := [(3, .int (x + 1)), (2, .int (a + 0)), (0, .ref (ad 0)), (1, .int st)]) hx hb dX10_inState_30 hl (k := 3) rfl (by rfl) (by decide) rfl (fun ls hl => ?_)
          refine lv_goto (tgt := 4) hx hb dX10_inState_33 (by decide) ?_
          exact ih  (i + 1) (x + 1) (a + 0) (by rw [ex]; exact nI_1 i) (hlt) (by omega) (by rw [ha]; simp only [cnS, eq_false c9, eq_false c20, ↓reduceIte]) _ _ hG hL _ (lv_sub hl [2, 3, 1, 0] rfl)
        ·
          refine lv_iconst (v := 1) hx hb dX10_inState_23 (by decide) ?_
          refine lv_goto (tgt := 28) hx hb dX10_inState_24 (by decide) ?_
          refine lv_iadd hx hb dX10_inState_28 ?_
          refine lv_istore_n (lv' := [(2, .int (a + 1)), (0, .ref (ad 0)), (1, .int st), (3, .int x)]) hx hb dX10_inState_29 rfl hl (by decide) rfl (fun ls hl => ?_)
          refine lv_iinc (v := x + 1) (lv' := [(3, .int (x + 1)), (2, .int (a + 1)), (0, .ref (ad 0)), (1, .int st)]) hx hb dX10_inState_30 hl (k := 3) rfl (by rfl) (by decide) rfl (fun ls hl => ?_)
          refine lv_goto (tgt := 4) hx hb dX10_inState_33 (by decide) ?_
          exact ih  (i + 1) (x + 1) (a + 1) (by rw [ex]; exact nI_1 i) (hlt) (by omega) (by rw [ha]; simp only [cnS, eq_false c9, eq_true c20, ↓reduceIte]) _ _ hG hL _ (lv_sub hl [2, 3, 1, 0] rfl)
  exact LP ((s 14).toNatClampNeg + 1) 0 0 0 (rfl) (Nat.zero_le _) (by omega) (rfl) _ _ hG hL _ (lv_sub hl [2, 3, 1, 0] rfl)
set_option maxHeartbeats 4000000 in
set_option maxRecDepth 100000 in
theorem c_X10_lineOf {l : Launch} {D : va_G} {cI cZ cB cO cR cJ : ClassId} {Hb : Heap} {lv : Nat → Prop} {ad : Nat → Nat} {ce0 : Nat → va_E} (hlv : lM lv) (d : Int32) (s : Nat → Int32) (r : Nat → Nat → Int32) (h0 : 0 ≤ (s 52).toInt) (h1 : (s 52).toInt ≤ 10) : mMet l D cI cZ cB cO cR cJ Hb lv ad ce0 yX10_lineOf wsX10_lineOf 0 0 [.ref (ad 0), .int d] s r (some (.int (fLi d s r))) s r := by
  refine Met.ofW (cc := cX10_lineOf) (maxL := 4) (ret := (some .int)) (by decide) rfl ?_
  intro p0 e0 s0 m0 args below meth c0 s₁ B hml hv
  obtain ⟨rfl, hG, hK⟩ := hv
  have hx := B.exec
  have hb := B.bytes
  have hr := B.returns
  have hts := atoms_spec (ws := wsX10_lineOf) B.pre
  have hown : s0.vm.findClass RX10 = some m0.cls := findClass_of_methodNamed B.named
  have hlocks := B.notSynchronized
  have S : mX p0 m0 c0 cX10_lineOf 4 s0 _ wsX10_lineOf D cI cZ cB cO cR cJ lv := ⟨⟨hx, hb, hml, hown, hts⟩, hK, fun w h => List.mem_cons_of_mem _ (List.mem_append_right _ h), hlv⟩
  have hL : gL Hb [] := gL.nil
  have hl := lv_entry ([.ref (ad 0), .int d]) (n := 4) (Nat.le_of_ble_eq_true rfl)
  rw [lg_entry_eq]
  generalize (lg_sl ([.ref (ad 0), .int d]) ++ List.replicate (4 - (lg_sl ([.ref (ad 0), .int d])).length) Slot.unset).toArray = ls at hl ⊢
  have hl : lv_has ls 4 [(0, .ref (ad 0)), (1, .int d)] := hl
  refine lv_iconst (v := (-1)) hx hb dX10_lineOf_0 (by decide) ?_
  refine lv_istore_n (lv' := [(2, .int (-1)), (0, .ref (ad 0)), (1, .int d)]) hx hb dX10_lineOf_1 rfl hl (by decide) rfl (fun ls hl => ?_)
  refine lv_iconst (v := 0) hx hb dX10_lineOf_2 (by decide) ?_
  refine lv_istore_n (lv' := [(3, .int 0), (2, .int (-1)), (0, .ref (ad 0)), (1, .int d)]) hx hb dX10_lineOf_3 rfl hl (by decide) rfl (fun ls hl => ?_)
  have LP : ∀ (n : Nat) (i : Nat) (x : Int32) (a : Int32) (ex : x = nI i) (hi : i ≤ (s 52).toNatClampNeg) (hn : (s 52).toNatClampNeg + 1 ≤ i + n) (ha : a = lof r 16 (-1) i), ∀ (H : Heap) (locs : List Loc), gW D Hb lv ad (mJ ce0 ad cI cZ s r) H → gL Hb locs → ∀ (ls : Array Slot), lv_has ls 4 [(0, .ref (ad 0)), (1, .int d), (2, .int a), (3, .int x)] → W p0 l e0 (headSpec wsX10_lineOf { frames := 0, cells := 0, slots := 0, locals := 0 }).room s0 m0 ([.ref (ad 0), .int d] : List Value).toArray below meth c0 H locs 0 0 (MQ below (gQ D Hb lv ad (some (.int (fLi d s r))) (mJ ce0 ad cI cZ s r)) ([.ref (ad 0), .int d] : List Value).toArray s0 0 0 (gA Hb)) (F0 m0 4 ls []) := by
    intro n
    induction n with
    | zero => intro i x a ex hi hn ha; exact absurd hn (by omega)
    | succ n ih =>
      intro i x a ex hi hn ha H locs hG hL ls hl
      have hbd : (s 52).toNatClampNeg ≤ 10 := t_ixl h0 h1; have hii : Int32.toNatClampNeg x = i := by { rw [ex]; exact ix_nI (by omega) }
      refine lv_iload_n hx hb dX10_lineOf_4 rfl (lv_at hl 3 rfl) ?_
      refine lv_aload_n hx hb dX10_lineOf_5 rfl (lv_at hl 0 rfl) ?_
      refine m_gi (v := s 52) S hG 52 rfl (hts (.fieldLink RX10 309 "SwarmLineModel" "lines" "I") (by decide +kernel)) dX10_lineOf_6 rfl ?_
      refine lv_icmp_ge (tgt := 31) hx hb dX10_lineOf_9 (by decide) (fun c9 => ?_) (fun c9 => ?_)
      ·
        have hEq := cl_ge h0 hi (ex ▸ c9)
        refine lv_iconst (v := 0) hx hb dX10_lineOf_31 (by decide) ?_
        refine lv_istore_n (lv' := [(3, .int 0), (0, .ref (ad 0)), (1, .int d), (2, .int a)]) hx hb dX10_lineOf_32 rfl hl (by decide) rfl (fun ls hl => ?_)
        have LP2 : ∀ (n2 : Nat) (i2 : Nat) (x2 : Int32) (a2 : Int32) (ex2 : x2 = nI i2) (hi2 : i2 ≤ (s 52).toNatClampNeg) (hn2 : (s 52).toNatClampNeg + 1 ≤ i2 + n2) (ha2 : a2 = lof r d (lof r 16 (-1) (s 52).toNatClampNeg) i2), ∀ (H : Heap) (locs : List Loc), gW D Hb lv ad (mJ ce0 ad cI cZ s r) H → gL Hb locs → ∀ (ls : Array Slot), lv_has ls 4 [(0, .ref (ad 0)), (1, .int d), (2, .int a2), (3, .int x2)] → W p0 l e0 (headSpec wsX10_lineOf { frames := 0, cells := 0, slots := 0, locals := 0 }).room s0 m0 ([.ref (ad 0), .int d] : List Value).toArray below meth c0 H locs 0 0 (MQ below (gQ D Hb lv ad (some (.int (fLi d s r))) (mJ ce0 ad cI cZ s r)) ([.ref (ad 0), .int d] : List Value).toArray s0 0 0 (gA Hb)) (F0 m0 33 ls []) := by
          intro n2
          induction n2 with
          | zero => intro i2 x2 a2 ex2 hi2 hn2 ha2; exact absurd hn2 (by omega)
          | succ n2 ih2 =>
            intro i2 x2 a2 ex2 hi2 hn2 ha2 H locs hG hL ls hl
            have hbd2 : (s 52).toNatClampNeg ≤ 10 := t_ixl h0 h1; have hii2 : Int32.toNatClampNeg x2 = i2 := by { rw [ex2]; exact ix_nI (by omega) }
            refine lv_iload_n hx hb dX10_lineOf_33 rfl (lv_at hl 3 rfl) ?_
            refine lv_aload_n hx hb dX10_lineOf_34 rfl (lv_at hl 0 rfl) ?_
            refine m_gi (v := s 52) S hG 52 rfl (hts (.fieldLink RX10 309 "SwarmLineModel" "lines" "I") (by decide +kernel)) dX10_lineOf_35 rfl ?_
            refine lv_icmp_ge (tgt := 59) hx hb dX10_lineOf_38 (by decide) (fun c38 => ?_) (fun c38 => ?_)
            ·
              have hEq2 := cl_ge h0 hi2 (ex2 ▸ c38)
              refine lv_iload_n hx hb dX10_lineOf_59 rfl (lv_at hl 2 rfl) ?_
              exact m_iret S hr hlocks hG hL dX10_lineOf_60 (by rw [ha2, hEq2]; rfl) (by rfl) (by rfl)
            ·
              have hlt2 := cl_lt h0 hi2 (ex2 ▸ c38)
              refine lv_aload_n hx hb dX10_lineOf_41 rfl (lv_at hl 0 rfl) ?_
              refine m_ga S hG 54 rfl (hts (.fieldLink RX10 146 "SwarmLineModel" "lineDistrict" "[I") (by decide +kernel)) dX10_lineOf_42 ?_
              refine lv_iload_n hx hb dX10_lineOf_45 rfl (lv_at hl 3 rfl) ?_
              refine m_ldj (j := i2) (v := r 54 i2) S hG 54 rfl hii2 (show vp_in x2 20 from by rw [ex2]; exact vp_in_i (by omega) (by omega)) dX10_lineOf_46 (rfl) ?_
              refine lv_iload_n hx hb dX10_lineOf_47 rfl (lv_at hl 1 rfl) ?_
              refine lv_icmp_ne (tgt := 53) hx hb dX10_lineOf_48 (by decide) (fun c48 => ?_) (fun c48 => ?_)
              ·
                refine lv_iinc (v := x2 + 1) (lv' := [(3, .int (x2 + 1)), (0, .ref (ad 0)), (1, .int d), (2, .int a2)]) hx hb dX10_lineOf_53 hl (k := 3) rfl (by rfl) (by decide) rfl (fun ls hl => ?_)
                refine lv_goto (tgt := 33) hx hb dX10_lineOf_56 (by decide) ?_
                exact ih2  (i2 + 1) (x2 + 1) a2 (by rw [ex2]; exact nI_1 i2) (hlt2) (by omega) (by simp only [lof, eq_true c9, eq_false c38, eq_false c48, ↓reduceIte]; exact ha2) _ _ hG hL _ (lv_sub hl [1, 2, 3, 0] rfl)
              ·
                refine lv_iload_n hx hb dX10_lineOf_51 rfl (lv_at hl 3 rfl) ?_
                refine lv_istore_n (lv' := [(2, .int x2), (0, .ref (ad 0)), (1, .int d), (3, .int x2)]) hx hb dX10_lineOf_52 rfl hl (by decide) rfl (fun ls hl => ?_)
                refine lv_iinc (v := x2 + 1) (lv' := [(3, .int (x2 + 1)), (2, .int x2), (0, .ref (ad 0)), (1, .int d)]) hx hb dX10_lineOf_53 hl (k := 3) rfl (by rfl) (by decide) rfl (fun ls hl => ?_)
                refine lv_goto (tgt := 33) hx hb dX10_lineOf_56 (by decide) ?_
                exact ih2  (i2 + 1) (x2 + 1) x2 (by rw [ex2]; exact nI_1 i2) (hlt2) (by omega) (by simp only [lof, eq_true c9, eq_false c38, eq_true c48, ↓reduceIte]; exact ex2) _ _ hG hL _ (lv_sub hl [2, 3, 1, 0] rfl)
        exact LP2 ((s 52).toNatClampNeg + 1) 0 0 a (rfl) (Nat.zero_le _) (by omega) (by rw [ha, hEq]; rfl) _ _ hG hL _ (lv_sub hl [1, 2, 3, 0] rfl)
      ·
        have hlt := cl_lt h0 hi (ex ▸ c9)
        refine lv_aload_n hx hb dX10_lineOf_12 rfl (lv_at hl 0 rfl) ?_
        refine m_ga S hG 54 rfl (hts (.fieldLink RX10 146 "SwarmLineModel" "lineDistrict" "[I") (by decide +kernel)) dX10_lineOf_13 ?_
        refine lv_iload_n hx hb dX10_lineOf_16 rfl (lv_at hl 3 rfl) ?_
        refine m_ldj (j := i) (v := r 54 i) S hG 54 rfl hii (show vp_in x 20 from by rw [ex]; exact vp_in_i (by omega) (by omega)) dX10_lineOf_17 (rfl) ?_
        refine lv_bipush (v := 16) hx hb dX10_lineOf_18 (by decide) ?_
        refine lv_icmp_ne (tgt := 25) hx hb dX10_lineOf_20 (by decide) (fun c20 => ?_) (fun c20 => ?_)
        ·
          refine lv_iinc (v := x + 1) (lv' := [(3, .int (x + 1)), (0, .ref (ad 0)), (1, .int d), (2, .int a)]) hx hb dX10_lineOf_25 hl (k := 3) rfl (by rfl) (by decide) rfl (fun ls hl => ?_)
          refine lv_goto (tgt := 4) hx hb dX10_lineOf_28 (by decide) ?_
          exact ih  (i + 1) (x + 1) a (by rw [ex]; exact nI_1 i) (hlt) (by omega) (by simp only [lof, eq_false c9, eq_false c20, ↓reduceIte]; exact ha) _ _ hG hL _ (lv_sub hl [1, 2, 3, 0] rfl)
        ·
          refine lv_iload_n hx hb dX10_lineOf_23 rfl (lv_at hl 3 rfl) ?_
          refine lv_istore_n (lv' := [(2, .int x), (0, .ref (ad 0)), (1, .int d), (3, .int x)]) hx hb dX10_lineOf_24 rfl hl (by decide) rfl (fun ls hl => ?_)
          refine lv_iinc (v := x + 1) (lv' := [(3, .int (x + 1)), (2, .int x), (0, .ref (ad 0)), (1, .int d)]) hx hb dX10_lineOf_25 hl (k := 3) rfl (by rfl) (by decide) rfl (fun ls hl => ?_)
          refine lv_goto (tgt := 4) hx hb dX10_lineOf_28 (by decide) ?_
          exact ih  (i + 1) (x + 1) x (by rw [ex]; exact nI_1 i) (hlt) (by omega) (by simp only [lof, eq_false c9, eq_true c20, ↓reduceIte]; exact ex) _ _ hG hL _ (lv_sub hl [2, 3, 1, 0] rfl)
  exact LP ((s 52).toNatClampNeg + 1) 0 0 (-1) (rfl) (Nat.zero_le _) (by omega) (rfl) _ _ hG hL _ (lv_sub hl [2, 3, 1, 0] rfl)
set_option maxHeartbeats 4000000 in
set_option maxRecDepth 100000 in
theorem c_X10_matching {l : Launch} {D : va_G} {cI cZ cB cO cR cJ : ClassId} {Hb : Heap} {lv : Nat → Prop} {ad : Nat → Nat} {ce0 : Nat → va_E} (hlv : lM lv)  (s : Nat → Int32) (r : Nat → Nat → Int32) (h0 : 0 ≤ (s 39).toInt) (h1 : (s 39).toInt ≤ 60) : mMet l D cI cZ cB cO cR cJ Hb lv ad ce0 yX10_matching wsX10_matching 1 25 [.ref (ad 0)] s r (some (.int (fMt s r))) s r := by
  refine Met.ofW (cc := cX10_matching) (maxL := 3) (ret := (some .int)) (by decide) rfl ?_
  intro p0 e0 s0 m0 args below meth c0 s₁ B hml hv
  obtain ⟨rfl, hG, hK⟩ := hv
  have hx := B.exec
  have hb := B.bytes
  have hr := B.returns
  have hts := atoms_spec (ws := wsX10_matching) B.pre
  have hown : s0.vm.findClass RX10 = some m0.cls := findClass_of_methodNamed B.named
  have hlocks := B.notSynchronized
  have S : mX p0 m0 c0 cX10_matching 3 s0 _ wsX10_matching D cI cZ cB cO cR cJ lv := ⟨⟨hx, hb, hml, hown, hts⟩, hK, fun w h => List.mem_cons_of_mem _ (List.mem_append_right _ h), hlv⟩
  have hL : gL Hb [] := gL.nil
  have hl := lv_entry ([.ref (ad 0)]) (n := 3) (Nat.le_of_ble_eq_true rfl)
  rw [lg_entry_eq]
  generalize (lg_sl ([.ref (ad 0)]) ++ List.replicate (3 - (lg_sl ([.ref (ad 0)])).length) Slot.unset).toArray = ls at hl ⊢
  have hl : lv_has ls 3 [(0, .ref (ad 0))] := hl
  refine lv_iconst (v := 0) hx hb dX10_matching_0 (by decide) ?_
  refine lv_istore_n (lv' := [(1, .int 0), (0, .ref (ad 0))]) hx hb dX10_matching_1 rfl hl (by decide) rfl (fun ls hl => ?_)
  have LP : ∀ (n : Nat) (i : Nat) (x : Int32) (ex : x = nI i) (hi : i ≤ (s 39).toNatClampNeg) (hn : (s 39).toNatClampNeg + 1 ≤ i + n) (hF : fF (mtP s r) ((s 39).toNatClampNeg - i) i = fMt s r), ∀ (H : Heap) (locs : List Loc), gW D Hb lv ad (mJ ce0 ad cI cZ s r) H → gL Hb locs → ∀ (ls : Array Slot), lv_has ls 3 [(0, .ref (ad 0)), (1, .int x)] → W p0 l e0 (headSpec wsX10_matching { frames := 1, cells := 0, slots := 0, locals := 25 }).room s0 m0 ([.ref (ad 0)] : List Value).toArray below meth c0 H locs 0 0 (MQ below (gQ D Hb lv ad (some (.int (fMt s r))) (mJ ce0 ad cI cZ s r)) ([.ref (ad 0)] : List Value).toArray s0 0 0 (gA Hb)) (F0 m0 2 ls []) := by
    intro n
    induction n with
    | zero => intro i x ex hi hn hF; exact absurd hn (by omega)
    | succ n ih =>
      intro i x ex hi hn hF H locs hG hL ls hl
      have hbd : (s 39).toNatClampNeg ≤ 60 := t_ixl h0 h1; have hii : Int32.toNatClampNeg x = i := by { rw [ex]; exact ix_nI (by omega) }
      refine lv_iload_n hx hb dX10_matching_2 rfl (lv_at hl 1 rfl) ?_
      refine lv_aload_n hx hb dX10_matching_3 rfl (lv_at hl 0 rfl) ?_
      refine m_gi (v := s 39) S hG 39 rfl (hts (.fieldLink RX10 192 "SwarmLineModel" "cases" "I") (by decide +kernel)) dX10_matching_4 rfl ?_
      refine lv_icmp_ge (tgt := 118) hx hb dX10_matching_7 (by decide) (fun c7 => ?_) (fun c7 => ?_)
      ·
        have hEq := cl_ge h0 hi (ex ▸ c7)
        refine lv_iconst (v := (-1)) hx hb dX10_matching_118 (by decide) ?_
        exact m_iret S hr hlocks hG hL dX10_matching_119 (by rw [← hF, hEq, Nat.sub_self]; rfl) (by rfl) (by rfl)
      ·
        have hlt := cl_lt h0 hi (ex ▸ c7)
        refine lv_aload_n hx hb dX10_matching_10 rfl (lv_at hl 0 rfl) ?_
        refine m_ga S hG 41 rfl (hts (.fieldLink RX10 112 "SwarmLineModel" "caseState" "[I") (by decide +kernel)) dX10_matching_11 ?_
        refine lv_iload_n hx hb dX10_matching_14 rfl (lv_at hl 1 rfl) ?_
        refine m_ldj (j := i) (v := r 41 i) S hG 41 rfl hii (show vp_in x 60 from by rw [ex]; exact vp_in_i (by omega) (by omega)) dX10_matching_15 (rfl) ?_
        refine lv_iconst (v := 2) hx hb dX10_matching_16 (by decide) ?_
        refine lv_icmp_ge (tgt := 71) hx hb dX10_matching_17 (by decide) (fun c17 => ?_) (fun c17 => ?_)
        ·
          refine lv_iconst (v := 0) hx hb dX10_matching_71 (by decide) ?_
          refine lv_istore_n (lv' := [(2, .int 0), (0, .ref (ad 0)), (1, .int x)]) hx hb dX10_matching_72 rfl hl (by decide) rfl (fun ls hl => ?_)
          refine lv_iload_n hx hb dX10_matching_73 rfl (lv_at hl 0 rfl) ?_
          refine lv_if_eq (tgt := 112) hx hb dX10_matching_74 (by decide) (fun _ => ?_) (fun c => absurd c (by decide))
          refine lv_iinc (v := x + 1) (lv' := [(1, .int (x + 1)), (2, .int 0), (0, .ref (ad 0))]) hx hb dX10_matching_112 hl (k := 2) rfl (by rfl) (by decide) rfl (fun ls hl => ?_)
          refine lv_goto (tgt := 2) hx hb dX10_matching_115 (by decide) ?_
          exact ih  (i + 1) (x + 1) (by rw [ex]; exact nI_1 i) (hlt) (by omega) (by rw [← hF, show (s 39).toNatClampNeg - i = ((s 39).toNatClampNeg - (i + 1)) + 1 by omega]; simp only [fF, mtP, eq_false c7, eq_true c17, ↓reduceIte, Bool.false_eq_true]) _ _ hG hL _ (lv_sub hl [2, 0] rfl)
        ·
          refine lv_aload_n hx hb dX10_matching_20 rfl (lv_at hl 0 rfl) ?_
          refine m_ga S hG 42 rfl (hts (.fieldLink RX10 115 "SwarmLineModel" "caseX" "[I") (by decide +kernel)) dX10_matching_21 ?_
          refine lv_iload_n hx hb dX10_matching_24 rfl (lv_at hl 1 rfl) ?_
          refine m_ldj (j := i) (v := r 42 i) S hG 42 rfl hii (show vp_in x 60 from by rw [ex]; exact vp_in_i (by omega) (by omega)) dX10_matching_25 (rfl) ?_
          refine lv_aload_n hx hb dX10_matching_26 rfl (lv_at hl 0 rfl) ?_
          refine m_ga S hG 43 rfl (hts (.fieldLink RX10 118 "SwarmLineModel" "caseY" "[I") (by decide +kernel)) dX10_matching_27 ?_
          refine lv_iload_n hx hb dX10_matching_30 rfl (lv_at hl 1 rfl) ?_
          refine m_ldj (j := i) (v := r 43 i) S hG 43 rfl hii (show vp_in x 60 from by rw [ex]; exact vp_in_i (by omega) (by omega)) dX10_matching_31 (rfl) ?_
          refine lv_aload_n hx hb dX10_matching_32 rfl (lv_at hl 0 rfl) ?_
          refine m_ga S hG 65 rfl (hts (.fieldLink RX10 168 "SwarmLineModel" "fact" "[I") (by decide +kernel)) dX10_matching_33 ?_
          refine lv_iconst (v := 0) hx hb dX10_matching_36 (by decide) ?_
          refine m_ld (v := r 65 (Int32.toNatClampNeg 0)) S hG 65 rfl (show vp_in 0 6 from vp_in_t (by decide) (by decide)) dX10_matching_37 (rfl) ?_
          refine lv_aload_n hx hb dX10_matching_38 rfl (lv_at hl 0 rfl) ?_
          refine m_ga S hG 65 rfl (hts (.fieldLink RX10 168 "SwarmLineModel" "fact" "[I") (by decide +kernel)) dX10_matching_39 ?_
          refine lv_iconst (v := 1) hx hb dX10_matching_42 (by decide) ?_
          refine m_ld (v := r 65 (Int32.toNatClampNeg 1)) S hG 65 rfl (show vp_in 1 6 from vp_in_t (by decide) (by decide)) dX10_matching_43 (rfl) ?_
          refine m_callP (n := 4) (As := [.int (r 42 i), .int (r 43 i), .int (r 65 (Int32.toNatClampNeg 0)), .int (r 65 (Int32.toNatClampNeg 1))]) (rest := []) (st1 := .int (fSt (r 42 i) (r 43 i) (r 65 (Int32.toNatClampNeg 0)) (r 65 (Int32.toNatClampNeg 1))) :: []) S.1 (c_X10_steps (r 42 i) (r 43 i) (r 65 (Int32.toNatClampNeg 0)) (r 65 (Int32.toNatClampNeg 1))) gX10_matching_X10_steps rfl (by decide +kernel) ⟨Nat.le_of_ble_eq_true rfl, Nat.le_of_ble_eq_true rfl⟩ rfl hl.1 rfl (Nat.le_of_ble_eq_true rfl) dX10_matching_44 ⟨Nat.zero_le _, Nat.zero_le _⟩ rfl ?_
          refine lv_iconst (v := 1) hx hb dX10_matching_47 (by decide) ?_
          refine lv_icmp_gt (tgt := 71) hx hb dX10_matching_48 (by decide) (fun c48 => ?_) (fun c48 => ?_)
          ·
            refine lv_iconst (v := 0) hx hb dX10_matching_71 (by decide) ?_
            refine lv_istore_n (lv' := [(2, .int 0), (0, .ref (ad 0)), (1, .int x)]) hx hb dX10_matching_72 rfl hl (by decide) rfl (fun ls hl => ?_)
            refine lv_iload_n hx hb dX10_matching_73 rfl (lv_at hl 0 rfl) ?_
            refine lv_if_eq (tgt := 112) hx hb dX10_matching_74 (by decide) (fun _ => ?_) (fun c => absurd c (by decide))
            refine lv_iinc (v := x + 1) (lv' := [(1, .int (x + 1)), (2, .int 0), (0, .ref (ad 0))]) hx hb dX10_matching_112 hl (k := 2) rfl (by rfl) (by decide) rfl (fun ls hl => ?_)
            refine lv_goto (tgt := 2) hx hb dX10_matching_115 (by decide) ?_
            exact ih  (i + 1) (x + 1) (by rw [ex]; exact nI_1 i) (hlt) (by omega) (by rw [← hF, show (s 39).toNatClampNeg - i = ((s 39).toNatClampNeg - (i + 1)) + 1 by omega]; simp only [fF, mtP, eq_false c7, eq_false c17, eq_true c48, ↓reduceIte, Bool.false_eq_true]) _ _ hG hL _ (lv_sub hl [2, 0] rfl)
          ·
            refine lv_aload_n hx hb dX10_matching_51 rfl (lv_at hl 0 rfl) ?_
            refine m_gi (v := s 1) S hG 1 rfl (hts (.fieldLink RX10 206 "SwarmLineModel" "now" "I") (by decide +kernel)) dX10_matching_52 rfl ?_
            refine lv_aload_n hx hb dX10_matching_55 rfl (lv_at hl 0 rfl) ?_
            refine m_ga S hG 49 rfl (hts (.fieldLink RX10 137 "SwarmLineModel" "caseLatest" "[I") (by decide +kernel)) dX10_matching_56 ?_
            refine lv_iload_n hx hb dX10_matching_59 rfl (lv_at hl 1 rfl) ?_
            refine m_ldj (j := i) (v := r 49 i) S hG 49 rfl hii (show vp_in x 60 from by rw [ex]; exact vp_in_i (by omega) (by omega)) dX10_matching_60 (rfl) ?_
            refine lv_isub hx hb dX10_matching_61 ?_
            refine lv_bipush (v := 6) hx hb dX10_matching_62 (by decide) ?_
            refine lv_icmp_gt (tgt := 71) hx hb dX10_matching_64 (by decide) (fun c64 => ?_) (fun c64 => ?_)
            ·
              refine lv_iconst (v := 0) hx hb dX10_matching_71 (by decide) ?_
              refine lv_istore_n (lv' := [(2, .int 0), (0, .ref (ad 0)), (1, .int x)]) hx hb dX10_matching_72 rfl hl (by decide) rfl (fun ls hl => ?_)
              refine lv_iload_n hx hb dX10_matching_73 rfl (lv_at hl 0 rfl) ?_
              refine lv_if_eq (tgt := 112) hx hb dX10_matching_74 (by decide) (fun _ => ?_) (fun c => absurd c (by decide))
              refine lv_iinc (v := x + 1) (lv' := [(1, .int (x + 1)), (2, .int 0), (0, .ref (ad 0))]) hx hb dX10_matching_112 hl (k := 2) rfl (by rfl) (by decide) rfl (fun ls hl => ?_)
              refine lv_goto (tgt := 2) hx hb dX10_matching_115 (by decide) ?_
              exact ih  (i + 1) (x + 1) (by rw [ex]; exact nI_1 i) (hlt) (by omega) (by rw [← hF, show (s 39).toNatClampNeg - i = ((s 39).toNatClampNeg - (i + 1)) + 1 by omega]; simp only [fF, mtP, eq_false c7, eq_false c17, eq_false c48, eq_true c64, ↓reduceIte, Bool.false_eq_true]) _ _ hG hL _ (lv_sub hl [2, 0] rfl)
            ·
              refine lv_iconst (v := 1) hx hb dX10_matching_67 (by decide) ?_
              refine lv_goto (tgt := 72) hx hb dX10_matching_68 (by decide) ?_
              refine lv_istore_n (lv' := [(2, .int 1), (0, .ref (ad 0)), (1, .int x)]) hx hb dX10_matching_72 rfl hl (by decide) rfl (fun ls hl => ?_)
              refine lv_iload_n hx hb dX10_matching_73 rfl (lv_at hl 0 rfl) ?_
              refine lv_if_eq (tgt := 112) hx hb dX10_matching_74 (by decide) (fun c => absurd c (by decide)) (fun _ => ?_)
              refine lv_aload_n hx hb dX10_matching_77 rfl (lv_at hl 1 rfl) ?_
              refine m_ga S hG 65 rfl (hts (.fieldLink RX10 168 "SwarmLineModel" "fact" "[I") (by decide +kernel)) dX10_matching_78 ?_
              refine lv_iconst (v := 4) hx hb dX10_matching_81 (by decide) ?_
              refine m_ld (v := r 65 (Int32.toNatClampNeg 4)) S hG 65 rfl (show vp_in 4 6 from vp_in_t (by decide) (by decide)) dX10_matching_82 (rfl) ?_
              refine lv_if_eq (tgt := 110) hx hb dX10_matching_83 (by decide) (fun c83 => ?_) (fun c83 => ?_)
              ·
                refine lv_iload_n hx hb dX10_matching_110 rfl (lv_at hl 2 rfl) ?_
                exact m_iret S hr hlocks hG hL dX10_matching_111 (by rw [← hF, show (s 39).toNatClampNeg - i = ((s 39).toNatClampNeg - (i + 1)) + 1 by omega]; simp only [fF, mtP, eq_false c7, eq_false c17, eq_false c48, eq_false c64, eq_true c83, ↓reduceIte, ex]) (by rfl) (by rfl)
              ·
                refine lv_aload_n hx hb dX10_matching_86 rfl (lv_at hl 1 rfl) ?_
                refine m_ga S hG 47 rfl (hts (.fieldLink RX10 131 "SwarmLineModel" "caseMark" "[I") (by decide +kernel)) dX10_matching_87 ?_
                refine lv_iload_n hx hb dX10_matching_90 rfl (lv_at hl 2 rfl) ?_
                refine m_ldj (j := i) (v := r 47 i) S hG 47 rfl hii (show vp_in x 60 from by rw [ex]; exact vp_in_i (by omega) (by omega)) dX10_matching_91 (rfl) ?_
                refine lv_if_eq (tgt := 110) hx hb dX10_matching_92 (by decide) (fun c92 => ?_) (fun c92 => ?_)
                ·
                  refine lv_iload_n hx hb dX10_matching_110 rfl (lv_at hl 2 rfl) ?_
                  exact m_iret S hr hlocks hG hL dX10_matching_111 (by rw [← hF, show (s 39).toNatClampNeg - i = ((s 39).toNatClampNeg - (i + 1)) + 1 by omega]; simp only [fF, mtP, eq_false c7, eq_false c17, eq_false c48, eq_false c64, eq_false c83, eq_true c92, ↓reduceIte, ex]) (by rfl) (by rfl)
                ·
                  refine lv_aload_n hx hb dX10_matching_95 rfl (lv_at hl 1 rfl) ?_
                  refine m_ga S hG 65 rfl (hts (.fieldLink RX10 168 "SwarmLineModel" "fact" "[I") (by decide +kernel)) dX10_matching_96 ?_
                  refine lv_iconst (v := 4) hx hb dX10_matching_99 (by decide) ?_
                  refine m_ld (v := r 65 (Int32.toNatClampNeg 4)) S hG 65 rfl (show vp_in 4 6 from vp_in_t (by decide) (by decide)) dX10_matching_100 (rfl) ?_
                  refine lv_aload_n hx hb dX10_matching_101 rfl (lv_at hl 1 rfl) ?_
                  refine m_ga S hG 47 rfl (hts (.fieldLink RX10 131 "SwarmLineModel" "caseMark" "[I") (by decide +kernel)) dX10_matching_102 ?_
                  refine lv_iload_n hx hb dX10_matching_105 rfl (lv_at hl 2 rfl) ?_
                  refine m_ldj (j := i) (v := r 47 i) S hG 47 rfl hii (show vp_in x 60 from by rw [ex]; exact vp_in_i (by omega) (by omega)) dX10_matching_106 (rfl) ?_
                  refine lv_icmp_ne (tgt := 112) hx hb dX10_matching_107 (by decide) (fun c107 => ?_) (fun c107 => ?_)
                  ·
                    refine lv_iinc (v := x + 1) (lv' := [(1, .int (x + 1)), (2, .int 1), (0, .ref (ad 0))]) hx hb dX10_matching_112 hl (k := 2) rfl (by rfl) (by decide) rfl (fun ls hl => ?_)
                    refine lv_goto (tgt := 2) hx hb dX10_matching_115 (by decide) ?_
                    exact ih  (i + 1) (x + 1) (by rw [ex]; exact nI_1 i) (hlt) (by omega) (by rw [← hF, show (s 39).toNatClampNeg - i = ((s 39).toNatClampNeg - (i + 1)) + 1 by omega]; simp only [fF, mtP, eq_false c7, eq_false c17, eq_false c48, eq_false c64, eq_false c83, eq_false c92, eq_false c107, ↓reduceIte, Bool.false_eq_true]) _ _ hG hL _ (lv_sub hl [2, 0] rfl)
                  ·
                    refine lv_iload_n hx hb dX10_matching_110 rfl (lv_at hl 2 rfl) ?_
                    exact m_iret S hr hlocks hG hL dX10_matching_111 (by rw [← hF, show (s 39).toNatClampNeg - i = ((s 39).toNatClampNeg - (i + 1)) + 1 by omega]; simp only [fF, mtP, eq_false c7, eq_false c17, eq_false c48, eq_false c64, eq_false c83, eq_false c92, eq_true c107, ↓reduceIte, ex]) (by rfl) (by rfl)
  exact LP ((s 39).toNatClampNeg + 1) 0 0 (rfl) (Nat.zero_le _) (by omega) (rfl) _ _ hG hL _ (lv_sub hl [1, 0] rfl)
