/-! what lives, by the counts -/
def lvC (l0 : Nat → Prop) (s : Nat → Int32) (k : Nat) : Prop := (k < 100 ∧ l0 k) ∨ kLv (s 6).toNatClampNeg (s 14).toNatClampNeg (s 26).toNatClampNeg (s 39).toNatClampNeg k
theorem lvC_L {l0 : Nat → Prop} {s : Nat → Int32} : kL (lvC l0 s) s := fun _ h => Or.inr h
def cBd (s : Nat → Int32) : Prop := (0 ≤ (s 6).toInt ∧ (s 6).toInt ≤ 60) ∧ (0 ≤ (s 14).toInt ∧ (s 14).toInt ≤ 60) ∧ (0 ≤ (s 26).toInt ∧ (s 26).toInt ≤ 60) ∧ (0 ≤ (s 39).toInt ∧ (s 39).toInt ≤ 60)
theorem cBd.n {s : Nat → Int32} (h : cBd s) : (s 6).toNatClampNeg ≤ 60 ∧ (s 14).toNatClampNeg ≤ 60 ∧ (s 26).toNatClampNeg ≤ 60 ∧ (s 39).toNatClampNeg ≤ 60 := ⟨t_ixl h.1.1 h.1.2, t_ixl h.2.1.1 h.2.1.2, t_ixl h.2.2.1.1 h.2.2.1.2, t_ixl h.2.2.2.1 h.2.2.2.2⟩
theorem kJ_ad {ce0 : Nat → va_E} {ad ad' : Nat → Nat} {eA : Nat} {cI cB cO cR : ClassId} {s : Nat → Int32} {r : Nat → Nat → Int32} (h : ∀ j, kLv (s 6).toNatClampNeg (s 14).toNatClampNeg (s 26).toNatClampNeg (s 39).toNatClampNeg j → ad' j = ad j) : kJ ce0 ad' eA cI cB cO cR s r = kJ ce0 ad eA cI cB cO cR s r := by
  have hL : kL (fun j => ad' j = ad j) s := h
  have hf : ∀ j, 100 ≤ j → j < 123 → ad' j = ad j := fun j a b => hL.f a b
  have e0 : ∀ q n, (0 < n → ad' (gKey q n) = ad (gKey q n)) → kEd ad' eA q n = kEd ad eA q n := fun q n hq => by
    unfold kEd
    by_cases z : n = 0
    · rw [if_pos z, if_pos z]
    · rw [if_neg z, if_neg z]; exact hq (by omega)
  have r0 : ∀ b n, (∀ i, i < n → ad' (b + i) = ad (b + i)) → kRf ad' b n = kRf ad b n := fun b n hq => by
    funext i
    unfold kRf
    by_cases z : i < n
    · rw [if_pos z, if_pos z, hq i z]
    · rw [if_neg z, if_neg z]
  funext k
  have eF : kFx ad' eA cI cB cR s r k = kFx ad eA cI cB cR s r k := by
    unfold kFx
    rw [hf 101 (by decide) (by decide), hf 102 (by decide) (by decide), hf 103 (by decide) (by decide), hf 104 (by decide) (by decide), hf 105 (by decide) (by decide), hf 106 (by decide) (by decide), hf 107 (by decide) (by decide), hf 108 (by decide) (by decide), hf 109 (by decide) (by decide), hf 110 (by decide) (by decide), hf 111 (by decide) (by decide), hf 112 (by decide) (by decide), hf 113 (by decide) (by decide), hf 114 (by decide) (by decide), hf 115 (by decide) (by decide), hf 116 (by decide) (by decide), hf 117 (by decide) (by decide), hf 118 (by decide) (by decide), hf 119 (by decide) (by decide), hf 120 (by decide) (by decide), hf 121 (by decide) (by decide), hf 122 (by decide) (by decide), e0 0 _ hL.l0, e0 1 _ hL.l1, e0 2 _ hL.l2, e0 3 _ hL.l3, r0 130 17 (fun i hi => hL.rw hi), r0 150 17 (fun i hi => hL.rd hi)]
  have eL : kLa ad' cO s k = kLa ad cO s k := by
    unfold kLa
    rw [r0 1000 _ (fun i hi => hL.hv hi), r0 2000 _ (fun i hi => hL.sw hi), r0 3000 _ (fun i hi => hL.kp hi), r0 4000 _ (fun i hi => hL.ca hi)]
  unfold kJ
  rw [eF, eL]
/-- what keeps its address always: all that isn't the class's, and its object -/
def lvA (l0 : Nat → Prop) (j : Nat) : Prop := (j < 100 ∧ l0 j) ∨ j = 100
theorem lvC_h {l0 : Nat → Prop} {s : Nat → Int32} {j : Nat} (h : lvA l0 j) : lvC l0 s j := h.elim Or.inl (fun e => Or.inr (Or.inl ⟨by omega, by omega⟩))
theorem lvA_100 {l0 : Nat → Prop} : lvA l0 100 := Or.inr rfl
/-- how a method ends that may make cells: where lva says so, the addresses are as they were -/
def mQ (D : va_G) (Hb : Heap) (l0 : Nat → Prop) (ad : Nat → Nat) (lva : Nat → Prop) (rv : Option Value) (ce0 : Nat → va_E) (eA : Nat) (cI cB cO cR : ClassId) (s : Nat → Int32) (r : Nat → Nat → Int32) : Array Value → State → Outcome → State → Prop := fun _ _ oc t => ∃ ad' : Nat → Nat, (∀ j, lva j → ad' j = ad j) ∧ oc = .returned rv ∧ gW D Hb (lvC l0 s) ad' (kJ ce0 ad' eA cI cB cO cR s r) t.heap
/-- what a made thing is before its constructor has written -/
def zhv (r : Nat → Nat → Int32) (i : Nat) : Nat → Nat → Int32 := up2 (up2 (up2 (up2 (up2 (up2 (up2 r 7 i 0) 8 i 0) 10 i 0) 11 i 0) 9 i 0) 12 i 0) 13 i 0
theorem zhv_nn (r : Nat → Nat → Int32) (i : Nat) {f : Nat} (h : f < 7 ∨ 13 < f) : zhv r i f = r f := by
  unfold zhv
  rw [up2_nn _ _ _ (by omega), up2_nn _ _ _ (by omega), up2_nn _ _ _ (by omega), up2_nn _ _ _ (by omega), up2_nn _ _ _ (by omega), up2_nn _ _ _ (by omega), up2_nn _ _ _ (by omega)]
theorem zhv_e {ce0 : Nat → va_E} {ad : Nat → Nat} {eA : Nat} {cI cB cO cR : ClassId} {s : Nat → Int32} {r : Nat → Nat → Int32} {i : Nat} (hi : i < 1000) : va_up (kJ ce0 ad eA cI cB cO cR s r) (1000 + i) (.inr (4, [.int 0, .int 0, .int 0, .int 0, .int 0, .int 0, .int 0])) = kJ ce0 ad eA cI cB cO cR s (zhv r i) := by
  refine kJ_up ?_ (fun k hk => kJ_seg k rfl (fun h => zhv_nn r i (by omega)) rfl (fun j e => by { have z : ¬ j = i := (by omega); simp [kHv, zhv, up2, va_up, upd, z] }) (fun _ _ => rfl) (fun _ _ => rfl) (fun _ _ => rfl))
  rw [kJ_hv hi]
  simp [kHv, zhv, up2, va_up, upd]
theorem lvC_nhv {l0 : Nat → Prop} {s : Nat → Int32} (h : cBd s) : ¬ lvC l0 s (1000 + (s 6).toNatClampNeg) := by
  have q := h.n
  have g0 := gCap_b (s 6).toNatClampNeg
  have g1 := gCap_b (s 14).toNatClampNeg
  have g2 := gCap_b (s 26).toNatClampNeg
  have g3 := gCap_b (s 39).toNatClampNeg
  rintro (h | h)
  · omega
  · unfold kLv gKey at h
    omega
def zsw (r : Nat → Nat → Int32) (i : Nat) : Nat → Nat → Int32 := up2 (up2 (up2 (up2 (up2 (up2 (up2 (up2 (up2 (up2 (up2 r 16 i 0) 17 i 0) 18 i 0) 19 i 0) 20 i 0) 21 i 0) 22 i 0) 15 i 0) 23 i 0) 25 i 0) 24 i 0
theorem zsw_nn (r : Nat → Nat → Int32) (i : Nat) {f : Nat} (h : f < 15 ∨ 25 < f) : zsw r i f = r f := by
  unfold zsw
  rw [up2_nn _ _ _ (by omega), up2_nn _ _ _ (by omega), up2_nn _ _ _ (by omega), up2_nn _ _ _ (by omega), up2_nn _ _ _ (by omega), up2_nn _ _ _ (by omega), up2_nn _ _ _ (by omega), up2_nn _ _ _ (by omega), up2_nn _ _ _ (by omega), up2_nn _ _ _ (by omega), up2_nn _ _ _ (by omega)]
theorem zsw_e {ce0 : Nat → va_E} {ad : Nat → Nat} {eA : Nat} {cI cB cO cR : ClassId} {s : Nat → Int32} {r : Nat → Nat → Int32} {i : Nat} (hi : i < 1000) : va_up (kJ ce0 ad eA cI cB cO cR s r) (2000 + i) (.inr (7, [.int 0, .int 0, .int 0, .int 0, .int 0, .int 0, .int 0, .int 0, .int 0, .int 0, .int 0])) = kJ ce0 ad eA cI cB cO cR s (zsw r i) := by
  refine kJ_up ?_ (fun k hk => kJ_seg k rfl (fun h => zsw_nn r i (by omega)) rfl (fun _ _ => rfl) (fun j e => by { have z : ¬ j = i := (by omega); simp [kSw, zsw, up2, va_up, upd, z] }) (fun _ _ => rfl) (fun _ _ => rfl))
  rw [kJ_sw hi]
  simp [kSw, zsw, up2, va_up, upd]
theorem lvC_nsw {l0 : Nat → Prop} {s : Nat → Int32} (h : cBd s) : ¬ lvC l0 s (2000 + (s 14).toNatClampNeg) := by
  have q := h.n
  have g0 := gCap_b (s 6).toNatClampNeg
  have g1 := gCap_b (s 14).toNatClampNeg
  have g2 := gCap_b (s 26).toNatClampNeg
  have g3 := gCap_b (s 39).toNatClampNeg
  rintro (h | h)
  · omega
  · unfold kLv gKey at h
    omega
def zkp (r : Nat → Nat → Int32) (i : Nat) : Nat → Nat → Int32 := up2 (up2 (up2 (up2 (up2 (up2 (up2 (up2 (up2 (up2 (up2 (up2 r 27 i 0) 28 i 0) 30 i 0) 31 i 0) 32 i 0) 33 i 0) 29 i 0) 34 i 0) 36 i 0) 35 i 0) 37 i 0) 38 i 0
theorem zkp_nn (r : Nat → Nat → Int32) (i : Nat) {f : Nat} (h : f < 27 ∨ 38 < f) : zkp r i f = r f := by
  unfold zkp
  rw [up2_nn _ _ _ (by omega), up2_nn _ _ _ (by omega), up2_nn _ _ _ (by omega), up2_nn _ _ _ (by omega), up2_nn _ _ _ (by omega), up2_nn _ _ _ (by omega), up2_nn _ _ _ (by omega), up2_nn _ _ _ (by omega), up2_nn _ _ _ (by omega), up2_nn _ _ _ (by omega), up2_nn _ _ _ (by omega), up2_nn _ _ _ (by omega)]
theorem zkp_e {ce0 : Nat → va_E} {ad : Nat → Nat} {eA : Nat} {cI cB cO cR : ClassId} {s : Nat → Int32} {r : Nat → Nat → Int32} {i : Nat} (hi : i < 1000) : va_up (kJ ce0 ad eA cI cB cO cR s r) (3000 + i) (.inr (5, [.int 0, .int 0, .int 0, .int 0, .int 0, .int 0, .int 0, .int 0, .int 0, .int 0, .int 0, .int 0])) = kJ ce0 ad eA cI cB cO cR s (zkp r i) := by
  refine kJ_up ?_ (fun k hk => kJ_seg k rfl (fun h => zkp_nn r i (by omega)) rfl (fun _ _ => rfl) (fun _ _ => rfl) (fun j e => by { have z : ¬ j = i := (by omega); simp [kKp, zkp, up2, va_up, upd, z] }) (fun _ _ => rfl))
  rw [kJ_kp hi]
  simp [kKp, zkp, up2, va_up, upd]
theorem lvC_nkp {l0 : Nat → Prop} {s : Nat → Int32} (h : cBd s) : ¬ lvC l0 s (3000 + (s 26).toNatClampNeg) := by
  have q := h.n
  have g0 := gCap_b (s 6).toNatClampNeg
  have g1 := gCap_b (s 14).toNatClampNeg
  have g2 := gCap_b (s 26).toNatClampNeg
  have g3 := gCap_b (s 39).toNatClampNeg
  rintro (h | h)
  · omega
  · unfold kLv gKey at h
    omega
def zca (r : Nat → Nat → Int32) (i : Nat) : Nat → Nat → Int32 := up2 (up2 (up2 (up2 (up2 (up2 (up2 (up2 (up2 (up2 (up2 r 42 i 0) 43 i 0) 44 i 0) 41 i 0) 45 i 0) 46 i 0) 47 i 0) 48 i 0) 49 i 0) 50 i 0) 51 i 0
theorem zca_nn (r : Nat → Nat → Int32) (i : Nat) {f : Nat} (h : f < 41 ∨ 51 < f) : zca r i f = r f := by
  unfold zca
  rw [up2_nn _ _ _ (by omega), up2_nn _ _ _ (by omega), up2_nn _ _ _ (by omega), up2_nn _ _ _ (by omega), up2_nn _ _ _ (by omega), up2_nn _ _ _ (by omega), up2_nn _ _ _ (by omega), up2_nn _ _ _ (by omega), up2_nn _ _ _ (by omega), up2_nn _ _ _ (by omega), up2_nn _ _ _ (by omega)]
theorem zca_e {ce0 : Nat → va_E} {ad : Nat → Nat} {eA : Nat} {cI cB cO cR : ClassId} {s : Nat → Int32} {r : Nat → Nat → Int32} {i : Nat} (hi : i < 1000) : va_up (kJ ce0 ad eA cI cB cO cR s r) (4000 + i) (.inr (2, [.int 0, .int 0, .int 0, .int 0, .int 0, .int 0, .int 0, .int 0, .int 0, .int 0, .int 0])) = kJ ce0 ad eA cI cB cO cR s (zca r i) := by
  refine kJ_up ?_ (fun k hk => kJ_seg k rfl (fun h => zca_nn r i (by omega)) rfl (fun _ _ => rfl) (fun _ _ => rfl) (fun _ _ => rfl) (fun j e => by { have z : ¬ j = i := (by omega); simp [kCa, zca, up2, va_up, upd, z] }))
  rw [kJ_ca hi]
  simp [kCa, zca, up2, va_up, upd]
theorem lvC_nca {l0 : Nat → Prop} {s : Nat → Int32} (h : cBd s) : ¬ lvC l0 s (4000 + (s 39).toNatClampNeg) := by
  have q := h.n
  have g0 := gCap_b (s 6).toNatClampNeg
  have g1 := gCap_b (s 14).toNatClampNeg
  have g2 := gCap_b (s 26).toNatClampNeg
  have g3 := gCap_b (s 39).toNatClampNeg
  rintro (h | h)
  · omega
  · unfold kLv gKey at h
    omega
theorem gCap_p {n : Nat} (h0 : ¬ n = 0) (h5 : ¬ g5 n) (hn : n < 60) : n < gCap n ∧ gCap (n + 1) = gCap n := by
  unfold g5 at h5
  unfold gCap
  repeat' split
  all_goals omega
theorem kJ_sg2 {ce0 : Nat → va_E} {ad : Nat → Nat} {eA : Nat} {cI cB cO cR : ClassId} {s s' : Nat → Int32} {r : Nat → Nat → Int32} (k : Nat) (hF : kFx ad eA cI cB cR s' r k = kFx ad eA cI cB cR s r k) (hA : 200 ≤ k → k < 1000 → kLa ad cO s' k = kLa ad cO s k) : kJ ce0 ad eA cI cB cO cR s' r k = kJ ce0 ad eA cI cB cO cR s r k := by
  unfold kJ
  rw [hF]
  by_cases c3 : k < 200
  · simp only [c3, if_true]
  · by_cases c4 : k < 1000
    · rw [hA (by omega) c4]
    · simp only [show ¬ k < 1000 from c4, if_false]
section MRW
variable {p : Program} {l : Launch} {e : Env} {R : Room} {s0 : State} {m : MethodId} {args : Array Value} {below : List Frame} {meth : Method} {c : Code} {H : Heap} {locs : List Loc} {cells slots : Nat} {Q : State → Prop}
variable {cI cZ cB cO cR cJ : ClassId} {cc : ByteArray} {pc nL : Nat} {ls : Array Slot} {rest st0 st1 : List Value} {D : va_G} {Hb : Heap} {K : kTx} {lv l0 : Nat → Prop} {ad : Nat → Nat} {ce ce' ce0 : Nat → va_E} {Ts : List Cond} {own : String}
/-- a final field in a constructor -/
theorem k_pF {tys : List (ClassId × FieldType)} (S : kX p m c cc nL s0 args Ts own D tys Hb K) (hG : gW D Hb lv ad ce H) (hL : gL Hb locs) {C : String} {T : u_T} {N ci index : Nat} (hin : ∀ w ∈ u_ws C T N, w ∈ Ts) (ty0 : Nat → FieldType) (hty : ∀ k, k < N → parseFieldDescriptor (T k).2.2.1 = some (ty0 k)) (hnm : ∀ a, a < N → ∀ b, b < N → a ≠ b → (T a).2.1 ≠ (T b).2.1) (k : Nat) (hk : lv k) {fs : List Value} (he : ce k = .inr (ci, fs)) (hc : vwCl[ci]? = some (C, T, N)) (f : Nat) (hf : f < N) (hd0 : (T f).1 = C) (hlink : (Cond.fieldLink own index C (T f).2.1 (T f).2.2.1).before args s0 = true) (hfin : (T f).2.2.2 = true) (hin2 : meth.name = "<init>") (how : C = own) {ty : FieldType} {v : Value} (hd : parseFieldDescriptor (T f).2.2.1 = some ty) (hn : narrow ty v = v) (hfit : fits ty v = true) (hl : f < fs.length) (e1 : va_up ce k (.inr (ci, fs.set f v)) = ce') (hdg : decode cc pc = .ok (.putfield index, 3))
    (kk : ∀ (H1 : Heap) (locs1 : List Loc), gW D Hb lv ad ce' H1 → gL Hb locs1 → W p l e R s0 m args below meth c H1 locs1 cells slots Q (F0 m (pc + 3) ls rest)) : W p l e R s0 m args below meth c H locs cells slots Q (F0 m pc ls (v :: .ref (ad k) :: rest)) := by
  subst e1
  exact g_putF (ref := C) S.1 S.2.1 hG hL hin ty0 hty hnm k hk he hc f hf hlink (by rw [hd0]; exact fun _ h => h) hfin hin2 (hd0.trans how) hd hn hfit hl hdg (fun H1 l1 a b _ => kk H1 l1 a b)
theorem m_back {mc ms : Nat} {lva : Nat → Prop} {rv : Option Value} {eA : Nat} {s : Nat → Int32} {r : Nat → Nat → Int32} {a : Array Value} (hr : va_Run p l e R s0 m args below meth c H locs cells slots mc ms (F0 m pc ls st0) rest (mQ D Hb l0 ad lva rv ce0 eA cI cB cO cR s r a) (gA Hb)) (hL : gL Hb locs)
    (kk : ∀ (ad1 : Nat → Nat) (H1 : Heap) (locs1 : List Loc), (∀ j, lva j → ad1 j = ad j) → gW D Hb (lvC l0 s) ad1 (kJ ce0 ad1 eA cI cB cO cR s r) H1 → gL Hb locs1 → W p l e R s0 m args below meth c H1 locs1 (cells + mc) (slots + ms) Q (F0 m (pc + 3) ls (rv.toList ++ rest))) : W p l e R s0 m args below meth c H locs cells slots Q (F0 m pc ls st0) := by
  intro T hT X
  obtain ⟨v, st₀, t, T', L, h0, X', hLL, e1, e2, ⟨ad1, ha, hv, hg⟩, st⟩ := hr T hT X
  cases hv
  obtain ⟨t2, a1, b1⟩ := kk ad1 T'.heap (locs ++ L) ha (by rw [e1]; exact hg) (hL.app hLL) T' rfl X'
  exact ⟨t2, st t2 a1, b1⟩
/-- a call of a method that may make cells -/
theorem m_callM {y : MethodName} {ws ws' : List Cond} {rm : Room} {mc ms n index maxL : Nat} {bytes : ByteArray} {ret : Option FieldType} {lva : Nat → Prop} {rv : Option Value} {eA : Nat} {s : Nat → Int32} {r : Nat → Nat → Int32} {As : List Value} {k ci : Nat} {q : vw_C} {fs : List Value} {tys : List (ClassId × FieldType)}
    (S : kX p m c cc nL s0 args Ts own D tys Hb K) (hG : gW D Hb lv ad ce H) (hL : gL Hb locs) (hk : lv k) (he : ce k = .inr (ci, fs)) (hc : vwCl[ci]? = some q)
    (hM : Met l y ws rm (va_Pc (.ref (ad k) :: As) (kP D tys Hb K lv ad ce)) (mQ D Hb l0 ad lva rv ce0 eA cI cB cO cR s r) mc ms (gA Hb)) (gd : GoodIn Ts (wsV own index q.1 y ws)) (hw : ws = Cond.code y bytes maxL ret :: ws') (hrm : rm.cells = mc ∧ rm.slots = ms)
    (hd : y.cls = q.1 ∧ y.cls ≠ "java/lang/invoke/MethodHandle" ∧ y.cls ≠ "java/lang/invoke/VarHandle" ∧ (parseMethodDescriptor y.desc).map (fun d => d.parameters.length) = some n) (hR : rm.frames + 1 ≤ R.frames ∧ 8 + (maxL + 11) + rm.locals ≤ R.locals)
    (hn : As.length = n) (hsize : ls.size = nL) (hst : st0 = As.reverse ++ .ref (ad k) :: rest) (hW : (rest.map fun v => v.category).sum ≤ 8) (hdg : decode cc pc = .ok (.invokevirtual index, 3)) (hf : cells + mc ≤ R.cells ∧ slots + ms ≤ R.slots)
    (kk : ∀ (ad1 : Nat → Nat) (H1 : Heap) (locs1 : List Loc), (∀ j, lva j → ad1 j = ad j) → gW D Hb (lvC l0 s) ad1 (kJ ce0 ad1 eA cI cB cO cR s r) H1 → gL Hb locs1 → W p l e R s0 m args below meth c H1 locs1 (cells + mc) (slots + ms) Q (F0 m (pc + 3) ls (rv.toList ++ rest))) : W p l e R s0 m args below meth c H locs cells slots Q (F0 m pc ls st0) :=
  m_back (va_runV (b := ad k) S.1 hM (cwV n S.1.2.2.2.2 gd hw hrm.1 hrm.2 hd hR) ⟨kP.blind, va_recv S.2.1 (hG.one hk he) hc (q0 := 0) rfl, fun U hU hW => ⟨rfl, by rw [hU]; exact hG, va_K.moved hW.alike S.2.1, kE.warm hW S.2.2⟩⟩ rfl hn hsize hst (by show 2 * 0 + _ ≤ 8; omega) hdg hf) hL kk
theorem mk_iret {v : Int32} {rv : Option Value} {lva : Nat → Prop} {eA : Nat} {s s2 : Nat → Int32} {r r2 : Nat → Nat → Int32} {ad1 : Nat → Nat} {mc ms : Nat} (S : CallFix p m c cc nL s0 args Ts own) (hr : meth.sig.returnType = some .int) (hlocks : meth.locks = false) (ha : ∀ j, lva j → ad1 j = ad j) (hG : gW D Hb (lvC l0 s) ad1 (kJ ce0 ad1 eA cI cB cO cR s r) H) (hL : gL Hb locs) (e1 : rv = some (.int v)) (e2 : s = s2) (e3 : r = r2) (hdg : decode cc pc = .ok (.ireturn, 1)) (hc : cells ≤ mc) (hs : slots ≤ ms) : W p l e R s0 m args below meth c H locs cells slots (MQ below (mQ D Hb l0 ad lva rv ce0 eA cI cB cO cR s2 r2) args s0 mc ms (gA Hb)) (F0 m pc ls [.int v]) := by
  subst e2 e3
  exact W.widen hc hs (W.iret S.1 S.2.1 hr (fun t ht _ => ⟨ad1, ha, by rw [e1], by rw [ht]; exact hG⟩) hL hdg hlocks)
theorem mk_vret {rv : Option Value} {lva : Nat → Prop} {eA : Nat} {s s2 : Nat → Int32} {r r2 : Nat → Nat → Int32} {ad1 : Nat → Nat} {mc ms : Nat} (S : CallFix p m c cc nL s0 args Ts own) (hr : meth.sig.returnType = none) (hlocks : meth.locks = false) (ha : ∀ j, lva j → ad1 j = ad j) (hG : gW D Hb (lvC l0 s) ad1 (kJ ce0 ad1 eA cI cB cO cR s r) H) (hL : gL Hb locs) (e1 : rv = none) (e2 : s = s2) (e3 : r = r2) (hdg : decode cc pc = .ok (.return_, 1)) (hc : cells ≤ mc) (hs : slots ≤ ms) : W p l e R s0 m args below meth c H locs cells slots (MQ below (mQ D Hb l0 ad lva rv ce0 eA cI cB cO cR s2 r2) args s0 mc ms (gA Hb)) (F0 m pc ls []) := by
  subst e2 e3
  exact W.widen hc hs (W.vret S.1 S.2.1 hr (fun t ht _ => ⟨ad1, ha, by rw [e1], by rw [ht]; exact hG⟩) hL hdg hlocks)
end MRW
