/-! how many could be had at once: the table of the sets of keepers -/
def mo1 : Nat → Nat → Nat → (Nat → Nat → Int32) → Nat × (Nat → Nat → Int32)
  | 0, _, n, r => (n, r)
  | k + 1, c, n, r => if 8 ≤ n then (n, r) else if r 41 c = 0 then mo1 k (c + 1) (n + 1) (up2 r 68 n (nI c)) else mo1 k (c + 1) n r
def moN (s : Nat → Int32) (r : Nat → Nat → Int32) : Nat := (mo1 (s 39).toNatClampNeg 0 0 r).1
def moA (s : Nat → Int32) (r : Nat → Nat → Int32) : Nat → Nat → Int32 := (mo1 (s 39).toNatClampNeg 0 0 r).2
def mo2 (r : Nat → Nat → Int32) : Nat → Nat → Nat → Int32
  | 0 => r
  | n + 1 => up2 (mo2 r n) 67 n (if nI n = 0 then 0 else -1)
def moBits (c : Int32) (s : Nat → Int32) (r : Nat → Nat → Int32) : Nat → Int32
  | 0 => 0
  | k + 1 => moBits c s r k ||| (if fCo (nI k) c s r = 0 then (0 : Int32) else (1 : Int32) <<< (nI k &&& 31))
def moC (y b : Int32) (k : Nat) (r : Nat → Nat → Int32) : Nat → Nat → Int32 := if (y >>> (nI k &&& 31)) &&& 1 = 0 then r else if (b >>> (nI k &&& 31)) &&& 1 = 0 then r else if r 67 (Int32.toNatClampNeg (y ^^^ (1 <<< (nI k &&& 31)))) = -1 then r else if r 67 (Int32.toNatClampNeg (y ^^^ (1 <<< (nI k &&& 31)))) + 1 ≤ r 67 (Int32.toNatClampNeg y) then r else up2 r 67 (Int32.toNatClampNeg y) (r 67 (Int32.toNatClampNeg (y ^^^ (1 <<< (nI k &&& 31)))) + 1)
def moK (y b : Int32) (r : Nat → Nat → Int32) : Nat → Nat → Nat → Int32
  | 0 => r
  | k + 1 => moC y b k (moK y b r k)
def moB (nk : Nat) (b : Int32) : Nat → (Nat → Nat → Int32) → Nat → Nat → Int32
  | 0, r => r
  | y + 1, r => moB nk b y (moK (nI (y + 1)) b r nk)
def moO (nk : Nat) (s : Nat → Int32) (r r1 : Nat → Nat → Int32) : Nat → Nat → Nat → Int32
  | 0 => r1
  | i + 1 => moB nk (moBits (r1 68 i) s r nk) (2 ^ nk - 1) (moO nk s r r1 i)
def moZ (r : Nat → Nat → Int32) : Nat → Int32
  | 0 => 0
  | n + 1 => if r 67 n ≤ moZ r n then moZ r n else r 67 n
def moR (s : Nat → Int32) (r : Nat → Nat → Int32) : Nat → Nat → Int32 := moO (s 26).toNatClampNeg s r (mo2 (moA s r) (2 ^ (s 26).toNatClampNeg)) (moN s r)
def moV (s : Nat → Int32) (r : Nat → Nat → Int32) : Int32 := moZ (moR s r) (2 ^ (s 26).toNatClampNeg)
theorem mo_sh : ∀ k, k < 31 → (1 : Int32) <<< (nI k &&& 31) = nI (2 ^ k) := by decide +kernel
theorem mo_p12 {nk : Nat} (h : nk ≤ 12) : 2 ^ nk ≤ 4096 := Nat.pow_le_pow_right (by decide) h
theorem mo_x {y : Int32} {Y k : Nat} (hy : y = nI Y) (hY : Y < 4096) (hk : k < 12) : vp_in (y ^^^ (1 <<< (nI k &&& 31))) 4096 := by
  have e : nI Y ^^^ nI (2 ^ k) = nI (Y ^^^ 2 ^ k) := by
    apply Int32.toBitVec_inj.mp
    show (nI Y).toBitVec ^^^ (nI (2 ^ k)).toBitVec = (nI (Y ^^^ 2 ^ k)).toBitVec
    show BitVec.ofNat 32 Y ^^^ BitVec.ofNat 32 (2 ^ k) = BitVec.ofNat 32 (Y ^^^ 2 ^ k)
    exact BitVec.ofNat_xor.symm
  rw [hy, mo_sh k (by omega), e]
  have h2 : 2 ^ k < 2 ^ 12 := Nat.pow_lt_pow_right (by decide) hk
  exact vp_in_i (Nat.xor_lt_two_pow (n := 12) hY h2) (by omega)
theorem fGo_eq {h lst : Int32} {s s' : Nat → Int32} {r r' : Nat → Nat → Int32} (hs : s' 1 = s 1) (h2 : r' 2 = r 2) (h4 : r' 4 = r 4) (h5 : r' 5 = r 5) : fGo h lst s' r' = fGo h lst s r := by
  have key : ∀ n p q, goF lst s' r' n p q = goF lst s r n p q := by
    intro n
    induction n with
    | zero => intro p q; rfl
    | succ n ih => intro p q; simp only [goF, ih, wAt, hs, h2, h4, h5]
  exact key ..
theorem fCo_eq {k c : Int32} {s s' : Nat → Int32} {r r' : Nat → Nat → Int32} (hs : s' 1 = s 1) (h : ∀ f, ¬ f = 67 → ¬ f = 68 → r' f = r f) : fCo k c s' r' = fCo k c s r := by
  unfold fCo
  rw [fAg_eq hs (fun f hf => h f (by omega) (by omega)), fGo_eq hs (h 2 (by decide) (by decide)) (h 4 (by decide) (by decide)) (h 5 (by decide) (by decide))]
  unfold fWa wSt
  rw [hs, h 46 (by decide) (by decide), h 27 (by decide) (by decide), h 28 (by decide) (by decide), h 42 (by decide) (by decide), h 43 (by decide) (by decide), h 31 (by decide) (by decide)]
theorem oc_up {N : Nat} {x : Int32} {rv : Nat → Nat → Int32} (h : ∀ i, i < N → vp_in (rv 68 i) 60) (hx : vp_in x 60) : ∀ i, i < N + 1 → vp_in (up2 rv 68 N x 68 i) 60 := by
  intro i hi
  by_cases e : i = N
  · rw [e, up2_ss]; exact hx
  · rw [up2_sn _ _ _ e]; exact h i (by omega)
def oth (r r' : Nat → Nat → Int32) : Prop := ∀ f, ¬ f = 67 → ¬ f = 68 → r' f = r f
theorem oth_67 {r r' : Nat → Nat → Int32} (h : oth r r') (i : Nat) (x : Int32) : oth r (up2 r' 67 i x) := fun f h1 h2 => (up2_nn _ _ _ h1).trans (h f h1 h2)
theorem oth_68 {r r' : Nat → Nat → Int32} (h : oth r r') (i : Nat) (x : Int32) : oth r (up2 r' 68 i x) := fun f h1 h2 => (up2_nn _ _ _ h2).trans (h f h1 h2)
/-- what the loops over the table leave as it was -/
def ot8 (r r' : Nat → Nat → Int32) : Prop := ∀ f, ¬ f = 67 → r' f = r f
theorem ot8_67 {r r' : Nat → Nat → Int32} (h : ot8 r r') (i : Nat) (x : Int32) : ot8 r (up2 r' 67 i x) := fun f h1 => (up2_nn _ _ _ h1).trans (h f h1)
theorem ot8_C {r r' : Nat → Nat → Int32} (h : ot8 r r') (y b : Int32) (k : Nat) : ot8 r (moC y b k r') := by
  unfold moC
  repeat' split
  all_goals first | exact h | exact ot8_67 h _ _
theorem ot8_K {r r' : Nat → Nat → Int32} (h : ot8 r r') (y b : Int32) : ∀ k, ot8 r (moK y b r' k)
  | 0 => h
  | k + 1 => ot8_C (ot8_K h y b k) y b k
theorem ot8_B {nk : Nat} {b : Int32} {r : Nat → Nat → Int32} : ∀ (y : Nat) (r' : Nat → Nat → Int32), ot8 r r' → ot8 r (moB nk b y r')
  | 0, _, h => h
  | y + 1, r', h => ot8_B y _ (ot8_K h _ _ _)
theorem ot8_O {nk : Nat} {s : Nat → Int32} {r r1 : Nat → Nat → Int32} : ∀ i, ot8 r1 (moO nk s r r1 i)
  | 0 => fun _ _ => rfl
  | i + 1 => ot8_B _ _ (ot8_O i)
theorem ot8_2 (r : Nat → Nat → Int32) : ∀ n, ot8 r (mo2 r n)
  | 0 => fun _ _ => rfl
  | n + 1 => ot8_67 (ot8_2 r n) _ _
set_option maxHeartbeats 4000000 in
set_option maxRecDepth 100000 in
theorem c_X10_most {l : Launch} {D : va_G} {cI cZ cB cO cR cJ : ClassId} {Hb : Heap} {lv : Nat → Prop} {ad : Nat → Nat} {ce0 : Nat → va_E} (hlv : lM lv)  (s : Nat → Int32) (r : Nat → Nat → Int32) (h0 : 0 ≤ (s 39).toInt) (h1 : (s 39).toInt ≤ 60) (h2 : 0 ≤ (s 26).toInt) (h3 : (s 26).toInt ≤ 12) (hP : pcI s r) (hS : ∀ c, c < 60 → ¬ r 46 c = -1 → 0 ≤ (r 46 c).toInt ∧ (r 46 c).toInt ≤ 743) : mMet l D cI cZ cB cO cR cJ Hb lv ad ce0 yX10_most wsX10_most 3 71 [.ref (ad 0)] s r (some (.int (moV s r))) (upd s 0 0) (moR s r) := by
  refine Met.ofW (cc := cX10_most) (maxL := 7) (ret := (some .int)) (by decide) rfl ?_
  intro p0 e0 s0 m0 args below meth c0 s₁ B hml hv
  obtain ⟨rfl, hG, hK⟩ := hv
  have hx := B.exec
  have hb := B.bytes
  have hr := B.returns
  have hts := atoms_spec (ws := wsX10_most) B.pre
  have hown : s0.vm.findClass RX10 = some m0.cls := findClass_of_methodNamed B.named
  have hlocks := B.notSynchronized
  have S : mX p0 m0 c0 cX10_most 7 s0 _ wsX10_most D cI cZ cB cO cR cJ lv := ⟨⟨hx, hb, hml, hown, hts⟩, hK, fun w h => List.mem_cons_of_mem _ (List.mem_append_right _ h), hlv⟩
  have hL : gL Hb [] := gL.nil
  have hl := lv_entry ([.ref (ad 0)]) (n := 7) (Nat.le_of_ble_eq_true rfl)
  rw [lg_entry_eq]
  generalize (lg_sl ([.ref (ad 0)]) ++ List.replicate (7 - (lg_sl ([.ref (ad 0)])).length) Slot.unset).toArray = ls at hl ⊢
  have hl : lv_has ls 7 [(0, .ref (ad 0))] := hl
  have hk12 : (s 26).toNatClampNeg ≤ 12 := t_ixl h2 h3
  have hp12 := mo_p12 hk12
  have hp1 : 1 ≤ 2 ^ (s 26).toNatClampNeg := Nat.one_le_two_pow
  have hal0 : (1 : Int32) <<< (s 26 &&& 31) = nI (2 ^ (s 26).toNatClampNeg) := by { have q := mo_sh (s 26).toNatClampNeg (by omega); rw [t_ixn h2] at q; exact q }
  refine lv_aload_n hx hb dX10_most_0 rfl (lv_at hl 0 rfl) ?_
  refine lv_iconst (v := 0) hx hb dX10_most_1 (by decide) ?_
  refine m_pi S hG hL 0 rfl (hts (.fieldLink RX10 180 "SwarmLineModel" "thrown" "I") (by decide +kernel)) dX10_most_2 (fun H locs hG hL => ?_)
  have L5 : ∀ (nn : Int32) (rv : Nat → Nat → Int32) (hnn : nn = nI (moN s r)) (hrv : rv = moA s r) (hN8 : moN s r ≤ 8) (ho : oth r rv) (hoc : ∀ i, i < moN s r → vp_in (rv 68 i) 60), ∀ (H : Heap) (locs : List Loc), gW D Hb lv ad (mJ ce0 ad cI cZ (upd s 0 0) rv) H → gL Hb locs → ∀ (ls : Array Slot), lv_has ls 7 [(0, .ref (ad 0)), (1, .int nn)] → W p0 l e0 (headSpec wsX10_most { frames := 3, cells := 0, slots := 0, locals := 71 }).room s0 m0 ([.ref (ad 0)] : List Value).toArray below meth c0 H locs 0 0 (MQ below (gQ D Hb lv ad (some (.int (moV s r))) (mJ ce0 ad cI cZ (upd s 0 0) (moR s r))) ([.ref (ad 0)] : List Value).toArray s0 0 0 (gA Hb)) (F0 m0 51 ls []) := by
    intro nn rv hnn hrv hN8 ho hoc H locs hG hL ls hl
    refine lv_iconst (v := 1) hx hb dX10_most_51 (by decide) ?_
    refine lv_aload_n hx hb dX10_most_52 rfl (lv_at hl 0 rfl) ?_
    refine m_gi (v := s 26) S hG 26 rfl (hts (.fieldLink RX10 189 "SwarmLineModel" "keepers" "I") (by decide +kernel)) dX10_most_53 rfl ?_
    refine lv_ishl hx hb dX10_most_56 ?_
    refine lv_istore_n (lv' := [(2, .int (1 <<< ((s 26) &&& 31))), (0, .ref (ad 0)), (1, .int nn)]) hx hb dX10_most_57 rfl hl (by decide) rfl (fun ls hl => ?_)
    refine lv_iconst (v := 0) hx hb dX10_most_58 (by decide) ?_
    refine lv_istore_n (lv' := [(3, .int 0), (2, .int (1 <<< ((s 26) &&& 31))), (0, .ref (ad 0)), (1, .int nn)]) hx hb dX10_most_59 rfl hl (by decide) rfl (fun ls hl => ?_)
    have L6 : ∀ (n2 : Nat) (i2 : Nat) (x2 : Int32) (al : Int32) (r2 : Nat → Nat → Int32) (ex2 : x2 = nI i2) (hi2 : i2 ≤ (al).toNatClampNeg) (hn2 : (al).toNatClampNeg + 1 ≤ i2 + n2) (hal : al = nI (2 ^ (s 26).toNatClampNeg)) (hr2 : r2 = mo2 (moA s r) i2), ∀ (H : Heap) (locs : List Loc), gW D Hb lv ad (mJ ce0 ad cI cZ (upd s 0 0) r2) H → gL Hb locs → ∀ (ls : Array Slot), lv_has ls 7 [(0, .ref (ad 0)), (1, .int nn), (2, .int al), (3, .int x2)] → W p0 l e0 (headSpec wsX10_most { frames := 3, cells := 0, slots := 0, locals := 71 }).room s0 m0 ([.ref (ad 0)] : List Value).toArray below meth c0 H locs 0 0 (MQ below (gQ D Hb lv ad (some (.int (moV s r))) (mJ ce0 ad cI cZ (upd s 0 0) (moR s r))) ([.ref (ad 0)] : List Value).toArray s0 0 0 (gA Hb)) (F0 m0 60 ls []) := by
      intro n2
      induction n2 with
      | zero => intro i2 x2 al r2 ex2 hi2 hn2 hal hr2; exact absurd hn2 (by omega)
      | succ n2 ih2 =>
        intro i2 x2 al r2 ex2 hi2 hn2 hal hr2 H locs hG hL ls hl
        have ga0 : 0 ≤ al.toInt := by { rw [hal, nI_toInt (by omega)]; omega }; have hbd2 : (al).toNatClampNeg ≤ 4096 := by { rw [hal, ix_nI (by omega)]; exact hp12 }; have hii2 : Int32.toNatClampNeg x2 = i2 := by { rw [ex2]; exact ix_nI (by omega) }
        refine lv_iload_n hx hb dX10_most_60 rfl (lv_at hl 3 rfl) ?_
        refine lv_iload_n hx hb dX10_most_61 rfl (lv_at hl 2 rfl) ?_
        refine lv_icmp_ge (tgt := 86) hx hb dX10_most_62 (by decide) (fun c62 => ?_) (fun c62 => ?_)
        ·
          have hEq2 := cl_ge ga0 hi2 (ex2 ▸ c62)
          refine lv_iconst (v := 0) hx hb dX10_most_86 (by decide) ?_
          refine lv_istore_n (lv' := [(3, .int 0), (0, .ref (ad 0)), (1, .int nn), (2, .int al)]) hx hb dX10_most_87 rfl hl (by decide) rfl (fun ls hl => ?_)
          have L8 : ∀ (n3 : Nat) (i3 : Nat) (x3 : Int32) (r3 : Nat → Nat → Int32) (ex3 : x3 = nI i3) (hi3 : i3 ≤ (nn).toNatClampNeg) (hn3 : (nn).toNatClampNeg + 1 ≤ i3 + n3) (hr3 : r3 = moO (s 26).toNatClampNeg s r (mo2 (moA s r) (2 ^ (s 26).toNatClampNeg)) i3), ∀ (H : Heap) (locs : List Loc), gW D Hb lv ad (mJ ce0 ad cI cZ (upd s 0 0) r3) H → gL Hb locs → ∀ (ls : Array Slot), lv_has ls 7 [(0, .ref (ad 0)), (1, .int nn), (2, .int al), (3, .int x3)] → W p0 l e0 (headSpec wsX10_most { frames := 3, cells := 0, slots := 0, locals := 71 }).room s0 m0 ([.ref (ad 0)] : List Value).toArray below meth c0 H locs 0 0 (MQ below (gQ D Hb lv ad (some (.int (moV s r))) (mJ ce0 ad cI cZ (upd s 0 0) (moR s r))) ([.ref (ad 0)] : List Value).toArray s0 0 0 (gA Hb)) (F0 m0 88 ls []) := by
            intro n3
            induction n3 with
            | zero => intro i3 x3 r3 ex3 hi3 hn3 hr3; exact absurd hn3 (by omega)
            | succ n3 ih3 =>
              intro i3 x3 r3 ex3 hi3 hn3 hr3 H locs hG hL ls hl
              have gn0 : 0 ≤ nn.toInt := by { rw [hnn, nI_toInt (by omega)]; omega }; have hbd3 : (nn).toNatClampNeg ≤ 8 := by { rw [hnn, ix_nI (by omega)]; exact hN8 }; have hii3 : Int32.toNatClampNeg x3 = i3 := by { rw [ex3]; exact ix_nI (by omega) }; have o8 : ot8 (mo2 (moA s r) (2 ^ (s 26).toNatClampNeg)) r3 := by { rw [hr3]; exact ot8_O _ }; have o9 : ot8 rv r3 := fun f hf => (o8 f hf).trans ((ot8_2 _ _ f hf).trans (by rw [hrv])); have hnx : nn.toNatClampNeg = moN s r := by { rw [hnn]; exact ix_nI (by omega) }
              refine lv_iload_n hx hb dX10_most_88 rfl (lv_at hl 3 rfl) ?_
              refine lv_iload_n hx hb dX10_most_89 rfl (lv_at hl 1 rfl) ?_
              refine lv_icmp_ge (tgt := 266) hx hb dX10_most_90 (by decide) (fun c90 => ?_) (fun c90 => ?_)
              ·
                have hEq3 := cl_ge gn0 hi3 (ex3 ▸ c90)
                refine lv_iconst (v := 0) hx hb dX10_most_266 (by decide) ?_
                refine lv_istore_n (lv' := [(3, .int 0), (0, .ref (ad 0)), (1, .int nn), (2, .int al)]) hx hb dX10_most_267 rfl hl (by decide) rfl (fun ls hl => ?_)
                refine lv_iconst (v := 0) hx hb dX10_most_268 (by decide) ?_
                refine lv_istore (lv' := [(4, .int 0), (3, .int 0), (0, .ref (ad 0)), (1, .int nn), (2, .int al)]) hx hb dX10_most_269 hl (by decide) rfl (fun ls hl => ?_)
                have LZ : ∀ (n9 : Nat) (i9 : Nat) (x9 : Int32) (z : Int32) (ex9 : x9 = nI i9) (hi9 : i9 ≤ (al).toNatClampNeg) (hn9 : (al).toNatClampNeg + 1 ≤ i9 + n9) (hz : z = moZ r3 i9), ∀ (H : Heap) (locs : List Loc), gW D Hb lv ad (mJ ce0 ad cI cZ (upd s 0 0) r3) H → gL Hb locs → ∀ (ls : Array Slot), lv_has ls 7 [(0, .ref (ad 0)), (2, .int al), (3, .int z), (4, .int x9)] → W p0 l e0 (headSpec wsX10_most { frames := 3, cells := 0, slots := 0, locals := 71 }).room s0 m0 ([.ref (ad 0)] : List Value).toArray below meth c0 H locs 0 0 (MQ below (gQ D Hb lv ad (some (.int (moV s r))) (mJ ce0 ad cI cZ (upd s 0 0) (moR s r))) ([.ref (ad 0)] : List Value).toArray s0 0 0 (gA Hb)) (F0 m0 271 ls []) := by
                  intro n9
                  induction n9 with
                  | zero => intro i9 x9 z ex9 hi9 hn9 hz; exact absurd hn9 (by omega)
                  | succ n9 ih9 =>
                    intro i9 x9 z ex9 hi9 hn9 hz H locs hG hL ls hl
                    have hbd9 : (al).toNatClampNeg ≤ 4096 := by { rw [hal, ix_nI (by omega)]; exact hp12 }; have hii9 : Int32.toNatClampNeg x9 = i9 := by { rw [ex9]; exact ix_nI (by omega) }
                    refine lv_iload hx hb dX10_most_271 (lv_at hl 3 rfl) ?_
                    refine lv_iload_n hx hb dX10_most_273 rfl (lv_at hl 1 rfl) ?_
                    refine lv_icmp_ge (tgt := 302) hx hb dX10_most_274 (by decide) (fun c274 => ?_) (fun c274 => ?_)
                    ·
                      have hEq9 := cl_ge ga0 hi9 (ex9 ▸ c274)
                      refine lv_iload_n hx hb dX10_most_302 rfl (lv_at hl 2 rfl) ?_
                      exact m_iret S hr hlocks hG hL dX10_most_303 (by rw [hz, hEq9, hal, ix_nI (by omega), hr3, hEq3, hnx]; rfl) (by rfl) (by rw [hr3, hEq3, hnx]; rfl)
                    ·
                      have hlt9 := cl_lt ga0 hi9 (ex9 ▸ c274)
                      refine lv_aload_n hx hb dX10_most_277 rfl (lv_at hl 0 rfl) ?_
                      refine m_ga S hG 67 rfl (hts (.fieldLink RX10 174 "SwarmLineModel" "table" "[I") (by decide +kernel)) dX10_most_278 ?_
                      refine lv_iload hx hb dX10_most_281 (lv_at hl 3 rfl) ?_
                      refine m_ldj (j := i9) (v := r3 67 i9) S hG 67 rfl hii9 (show vp_in x9 4096 from by rw [ex9]; exact vp_in_i (by omega) (by omega)) dX10_most_283 (rfl) ?_
                      refine lv_iload_n hx hb dX10_most_284 rfl (lv_at hl 2 rfl) ?_
                      refine lv_icmp_le (tgt := 296) hx hb dX10_most_285 (by decide) (fun c285 => ?_) (fun c285 => ?_)
                      ·
                        refine lv_iinc (v := x9 + 1) (lv' := [(4, .int (x9 + 1)), (0, .ref (ad 0)), (2, .int al), (3, .int z)]) hx hb dX10_most_296 hl (k := 3) rfl (by rfl) (by decide) rfl (fun ls hl => ?_)
                        refine lv_goto (tgt := 271) hx hb dX10_most_299 (by decide) ?_
                        exact ih9  (i9 + 1) (x9 + 1) z (by rw [ex9]; exact nI_1 i9) (hlt9) (by omega) (by simp only [moZ, ← hz, eq_true c285, ↓reduceIte]) _ _ hG hL _ (lv_sub hl [1, 2, 3, 0] rfl)
                      ·
                        refine lv_aload_n hx hb dX10_most_288 rfl (lv_at hl 0 rfl) ?_
                        refine m_ga S hG 67 rfl (hts (.fieldLink RX10 174 "SwarmLineModel" "table" "[I") (by decide +kernel)) dX10_most_289 ?_
                        refine lv_iload hx hb dX10_most_292 (lv_at hl 3 rfl) ?_
                        refine m_ldj (j := i9) (v := r3 67 i9) S hG 67 rfl hii9 (show vp_in x9 4096 from by rw [ex9]; exact vp_in_i (by omega) (by omega)) dX10_most_294 (rfl) ?_
                        refine lv_istore_n (lv' := [(3, .int (r3 67 i9)), (0, .ref (ad 0)), (2, .int al), (4, .int x9)]) hx hb dX10_most_295 rfl hl (by decide) rfl (fun ls hl => ?_)
                        refine lv_iinc (v := x9 + 1) (lv' := [(4, .int (x9 + 1)), (3, .int (r3 67 i9)), (0, .ref (ad 0)), (2, .int al)]) hx hb dX10_most_296 hl (k := 3) rfl (by rfl) (by decide) rfl (fun ls hl => ?_)
                        refine lv_goto (tgt := 271) hx hb dX10_most_299 (by decide) ?_
                        exact ih9  (i9 + 1) (x9 + 1) (r3 67 i9) (by rw [ex9]; exact nI_1 i9) (hlt9) (by omega) (by simp only [moZ, ← hz, eq_false c285, ↓reduceIte]) _ _ hG hL _ (lv_sub hl [2, 3, 1, 0] rfl)
                exact LZ ((al).toNatClampNeg + 1) 0 0 0 (rfl) (Nat.zero_le _) (by omega) (rfl) _ _ hG hL _ (lv_sub hl [2, 4, 1, 0] rfl)
              ·
                have hlt3 := cl_lt gn0 hi3 (ex3 ▸ c90)
                refine lv_iconst (v := 0) hx hb dX10_most_93 (by decide) ?_
                refine lv_istore (lv' := [(4, .int 0), (0, .ref (ad 0)), (1, .int nn), (2, .int al), (3, .int x3)]) hx hb dX10_most_94 hl (by decide) rfl (fun ls hl => ?_)
                refine lv_iconst (v := 0) hx hb dX10_most_96 (by decide) ?_
                refine lv_istore (lv' := [(5, .int 0), (4, .int 0), (0, .ref (ad 0)), (1, .int nn), (2, .int al), (3, .int x3)]) hx hb dX10_most_97 hl (by decide) rfl (fun ls hl => ?_)
                have L9 : ∀ (n5 : Nat) (i5 : Nat) (x5 : Int32) (b : Int32) (ex5 : x5 = nI i5) (hi5 : i5 ≤ (s 26).toNatClampNeg) (hn5 : (s 26).toNatClampNeg + 1 ≤ i5 + n5) (hb4 : b = moBits ((mo2 (moA s r) (2 ^ (s 26).toNatClampNeg)) 68 i3) s r i5), ∀ (H : Heap) (locs : List Loc), gW D Hb lv ad (mJ ce0 ad cI cZ (upd s 0 0) r3) H → gL Hb locs → ∀ (ls : Array Slot), lv_has ls 7 [(0, .ref (ad 0)), (1, .int nn), (2, .int al), (3, .int x3), (4, .int b), (5, .int x5)] → W p0 l e0 (headSpec wsX10_most { frames := 3, cells := 0, slots := 0, locals := 71 }).room s0 m0 ([.ref (ad 0)] : List Value).toArray below meth c0 H locs 0 0 (MQ below (gQ D Hb lv ad (some (.int (moV s r))) (mJ ce0 ad cI cZ (upd s 0 0) (moR s r))) ([.ref (ad 0)] : List Value).toArray s0 0 0 (gA Hb)) (F0 m0 99 ls []) := by
                  intro n5
                  induction n5 with
                  | zero => intro i5 x5 b ex5 hi5 hn5 hb4; exact absurd hn5 (by omega)
                  | succ n5 ih5 =>
                    intro i5 x5 b ex5 hi5 hn5 hb4 H locs hG hL ls hl
                    have hbd5 : (s 26).toNatClampNeg ≤ 12 := t_ixl h2 h3; have hii5 : Int32.toNatClampNeg x5 = i5 := by { rw [ex5]; exact ix_nI (by omega) }
                    refine lv_iload hx hb dX10_most_99 (lv_at hl 5 rfl) ?_
                    refine lv_aload_n hx hb dX10_most_101 rfl (lv_at hl 0 rfl) ?_
                    refine m_gi (v := s 26) S hG 26 rfl (hts (.fieldLink RX10 189 "SwarmLineModel" "keepers" "I") (by decide +kernel)) dX10_most_102 rfl ?_
                    refine lv_icmp_ge (tgt := 142) hx hb dX10_most_105 (by decide) (fun c105 => ?_) (fun c105 => ?_)
                    ·
                      have hEq5 := cl_ge h2 hi5 (ex5 ▸ c105)
                      refine lv_iload_n hx hb dX10_most_142 rfl (lv_at hl 2 rfl) ?_
                      refine lv_iconst (v := 1) hx hb dX10_most_143 (by decide) ?_
                      refine lv_isub hx hb dX10_most_144 ?_
                      refine lv_istore (lv' := [(5, .int (al - 1)), (0, .ref (ad 0)), (1, .int nn), (2, .int al), (3, .int x3), (4, .int b)]) hx hb dX10_most_145 hl (by decide) rfl (fun ls hl => ?_)
                      have LB : ∀ (n7 : Nat) (Y : Nat) (y : Int32) (r4 : Nat → Nat → Int32) (ey : y = nI Y) (hY : Y < 2 ^ (s 26).toNatClampNeg) (hn7 : Y + 1 ≤ n7) (hr4 : moB (s 26).toNatClampNeg b Y r4 = moB (s 26).toNatClampNeg b (2 ^ (s 26).toNatClampNeg - 1) r3) (o7 : ot8 rv r4), ∀ (H : Heap) (locs : List Loc), gW D Hb lv ad (mJ ce0 ad cI cZ (upd s 0 0) r4) H → gL Hb locs → ∀ (ls : Array Slot), lv_has ls 7 [(0, .ref (ad 0)), (1, .int nn), (2, .int al), (3, .int x3), (4, .int b), (5, .int y)] → W p0 l e0 (headSpec wsX10_most { frames := 3, cells := 0, slots := 0, locals := 71 }).room s0 m0 ([.ref (ad 0)] : List Value).toArray below meth c0 H locs 0 0 (MQ below (gQ D Hb lv ad (some (.int (moV s r))) (mJ ce0 ad cI cZ (upd s 0 0) (moR s r))) ([.ref (ad 0)] : List Value).toArray s0 0 0 (gA Hb)) (F0 m0 147 ls []) := by
                        intro n7
                        induction n7 with
                        | zero => intro Y y r4 ey hY hn7 hr4 o7; exact absurd hn7 (by omega)
                        | succ n7 ih7 =>
                          intro Y y r4 ey hY hn7 hr4 o7 H locs hG hL ls hl
                          refine lv_iload hx hb dX10_most_147 (lv_at hl 5 rfl) ?_
                          refine lv_if_le (tgt := 260) hx hb dX10_most_149 (by decide) (fun c149 => ?_) (fun c149 => ?_)
                          ·
                            have hE0 : Y = 0 := by { rw [t_le, t_0, ey, nI_toInt (by omega)] at c149; omega }; have hr4 : r4 = moB (s 26).toNatClampNeg b (2 ^ (s 26).toNatClampNeg - 1) r3 := by { rw [← hr4, hE0]; rfl }; have hE4 := (show b = moBits ((mo2 (moA s r) (2 ^ (s 26).toNatClampNeg)) 68 i3) s r (s 26).toNatClampNeg by rw [hb4, hEq5])
                            refine lv_iinc (v := x3 + 1) (lv' := [(3, .int (x3 + 1)), (0, .ref (ad 0)), (1, .int nn), (2, .int al), (4, .int b), (5, .int y)]) hx hb dX10_most_260 hl (k := 3) rfl (by rfl) (by decide) rfl (fun ls hl => ?_)
                            refine lv_goto (tgt := 88) hx hb dX10_most_263 (by decide) ?_
                            exact ih3  (i3 + 1) (x3 + 1) r4 (by rw [ex3]; exact nI_1 i3) (hlt3) (by omega) (by rw [hr4, hE4, hr3]; rfl) _ _ hG hL _ (lv_sub hl [1, 2, 3, 0] rfl)
                          ·
                            have hY0 : 0 < Y := by { rw [t_le, t_0, ey, nI_toInt (by omega)] at c149; omega }
                            refine lv_iconst (v := 0) hx hb dX10_most_152 (by decide) ?_
                            refine lv_istore (lv' := [(6, .int 0), (0, .ref (ad 0)), (1, .int nn), (2, .int al), (3, .int x3), (4, .int b), (5, .int y)]) hx hb dX10_most_153 hl (by decide) rfl (fun ls hl => ?_)
                            have LC : ∀ (n6 : Nat) (i6 : Nat) (x6 : Int32) (r6 : Nat → Nat → Int32) (ex6 : x6 = nI i6) (hi6 : i6 ≤ (s 26).toNatClampNeg) (hn6 : (s 26).toNatClampNeg + 1 ≤ i6 + n6) (hr6 : r6 = moK y b r4 i6), ∀ (H : Heap) (locs : List Loc), gW D Hb lv ad (mJ ce0 ad cI cZ (upd s 0 0) r6) H → gL Hb locs → ∀ (ls : Array Slot), lv_has ls 7 [(0, .ref (ad 0)), (1, .int nn), (2, .int al), (3, .int x3), (4, .int b), (5, .int y), (6, .int x6)] → W p0 l e0 (headSpec wsX10_most { frames := 3, cells := 0, slots := 0, locals := 71 }).room s0 m0 ([.ref (ad 0)] : List Value).toArray below meth c0 H locs 0 0 (MQ below (gQ D Hb lv ad (some (.int (moV s r))) (mJ ce0 ad cI cZ (upd s 0 0) (moR s r))) ([.ref (ad 0)] : List Value).toArray s0 0 0 (gA Hb)) (F0 m0 155 ls []) := by
                              intro n6
                              induction n6 with
                              | zero => intro i6 x6 r6 ex6 hi6 hn6 hr6; exact absurd hn6 (by omega)
                              | succ n6 ih6 =>
                                intro i6 x6 r6 ex6 hi6 hn6 hr6 H locs hG hL ls hl
                                have hbd6 : (s 26).toNatClampNeg ≤ 12 := t_ixl h2 h3; have hii6 : Int32.toNatClampNeg x6 = i6 := by { rw [ex6]; exact ix_nI (by omega) }
                                refine lv_iload hx hb dX10_most_155 (lv_at hl 6 rfl) ?_
                                refine lv_aload_n hx hb dX10_most_157 rfl (lv_at hl 0 rfl) ?_
                                refine m_gi (v := s 26) S hG 26 rfl (hts (.fieldLink RX10 189 "SwarmLineModel" "keepers" "I") (by decide +kernel)) dX10_most_158 rfl ?_
                                refine lv_icmp_ge (tgt := 254) hx hb dX10_most_161 (by decide) (fun c161 => ?_) (fun c161 => ?_)
                                ·
                                  have hEq6 := cl_ge h2 hi6 (ex6 ▸ c161)
                                  refine lv_iinc (v := y + (-1)) (lv' := [(5, .int (y + (-1))), (0, .ref (ad 0)), (1, .int nn), (2, .int al), (3, .int x3), (4, .int b), (6, .int x6)]) hx hb dX10_most_254 hl (k := 5) rfl (by rfl) (by decide) rfl (fun ls hl => ?_)
                                  refine lv_goto (tgt := 147) hx hb dX10_most_257 (by decide) ?_
                                  exact ih7  (Y - 1) (y + (-1)) r6 (by rw [ey, show Y = (Y - 1) + 1 by omega]; exact pk_m1 (Y - 1)) (by omega) (by omega) (by rw [← hr4, show Y = (Y - 1) + 1 by omega]; show _ = moB _ _ (Y - 1) (moK (nI (Y - 1 + 1)) b r4 _); rw [← show Y = (Y - 1) + 1 by omega, ← ey, hr6, hEq6]) (by rw [hr6]; exact ot8_K o7 _ _ _) _ _ hG hL _ (lv_sub hl [1, 2, 3, 4, 5, 0] rfl)
                                ·
                                  have hlt6 := cl_lt h2 hi6 (ex6 ▸ c161)
                                  refine lv_iload hx hb dX10_most_164 (lv_at hl 5 rfl) ?_
                                  refine lv_iload hx hb dX10_most_166 (lv_at hl 6 rfl) ?_
                                  refine lv_ishr hx hb dX10_most_168 ?_
                                  refine lv_iconst (v := 1) hx hb dX10_most_169 (by decide) ?_
                                  refine lv_iand hx hb dX10_most_170 ?_
                                  refine lv_if_eq (tgt := 248) hx hb dX10_most_171 (by decide) (fun c171 => ?_) (fun c171 => ?_)
                                  ·
                                    refine lv_iinc (v := x6 + 1) (lv' := [(6, .int (x6 + 1)), (0, .ref (ad 0)), (1, .int nn), (2, .int al), (3, .int x3), (4, .int b), (5, .int y)]) hx hb dX10_most_248 hl (k := 6) rfl (by rfl) (by decide) rfl (fun ls hl => ?_)
                                    refine lv_goto (tgt := 155) hx hb dX10_most_251 (by decide) ?_
                                    exact ih6  (i6 + 1) (x6 + 1) r6 (by rw [ex6]; exact nI_1 i6) (hlt6) (by omega) (by show _ = moC y b i6 (moK y b r4 i6); rw [← hr6]; simp only [moC, ← ex6, eq_true c171, ↓reduceIte]) _ _ hG hL _ (lv_sub hl [1, 2, 3, 4, 5, 6, 0] rfl)
                                  ·
                                    refine lv_iload hx hb dX10_most_174 (lv_at hl 4 rfl) ?_
                                    refine lv_iload hx hb dX10_most_176 (lv_at hl 6 rfl) ?_
                                    refine lv_ishr hx hb dX10_most_178 ?_
                                    refine lv_iconst (v := 1) hx hb dX10_most_179 (by decide) ?_
                                    refine lv_iand hx hb dX10_most_180 ?_
                                    refine lv_if_eq (tgt := 248) hx hb dX10_most_181 (by decide) (fun c181 => ?_) (fun c181 => ?_)
                                    ·
                                      refine lv_iinc (v := x6 + 1) (lv' := [(6, .int (x6 + 1)), (0, .ref (ad 0)), (1, .int nn), (2, .int al), (3, .int x3), (4, .int b), (5, .int y)]) hx hb dX10_most_248 hl (k := 6) rfl (by rfl) (by decide) rfl (fun ls hl => ?_)
                                      refine lv_goto (tgt := 155) hx hb dX10_most_251 (by decide) ?_
                                      exact ih6  (i6 + 1) (x6 + 1) r6 (by rw [ex6]; exact nI_1 i6) (hlt6) (by omega) (by show _ = moC y b i6 (moK y b r4 i6); rw [← hr6]; simp only [moC, ← ex6, eq_false c171, eq_true c181, ↓reduceIte]) _ _ hG hL _ (lv_sub hl [1, 2, 3, 4, 5, 6, 0] rfl)
                                    ·
                                      refine lv_aload_n hx hb dX10_most_184 rfl (lv_at hl 0 rfl) ?_
                                      refine m_ga S hG 67 rfl (hts (.fieldLink RX10 174 "SwarmLineModel" "table" "[I") (by decide +kernel)) dX10_most_185 ?_
                                      refine lv_iload hx hb dX10_most_188 (lv_at hl 5 rfl) ?_
                                      refine lv_iconst (v := 1) hx hb dX10_most_190 (by decide) ?_
                                      refine lv_iload hx hb dX10_most_191 (lv_at hl 6 rfl) ?_
                                      refine lv_ishl hx hb dX10_most_193 ?_
                                      refine lv_ixor hx hb dX10_most_194 ?_
                                      refine m_ld (v := r6 67 (Int32.toNatClampNeg (y ^^^ (1 <<< (x6 &&& 31))))) S hG 67 rfl (show vp_in (y ^^^ (1 <<< (x6 &&& 31))) 4096 from by rw [ex6]; exact mo_x ey (by omega) (by omega)) dX10_most_195 (rfl) ?_
                                      refine lv_iconst (v := (-1)) hx hb dX10_most_196 (by decide) ?_
                                      refine lv_icmp_ne (tgt := 203) hx hb dX10_most_197 (by decide) (fun c197 => ?_) (fun c197 => ?_)
                                      ·
                                        refine lv_aload_n hx hb dX10_most_203 rfl (lv_at hl 0 rfl) ?_
                                        refine m_ga S hG 67 rfl (hts (.fieldLink RX10 174 "SwarmLineModel" "table" "[I") (by decide +kernel)) dX10_most_204 ?_
                                        refine lv_iload hx hb dX10_most_207 (lv_at hl 5 rfl) ?_
                                        refine lv_iconst (v := 1) hx hb dX10_most_209 (by decide) ?_
                                        refine lv_iload hx hb dX10_most_210 (lv_at hl 6 rfl) ?_
                                        refine lv_ishl hx hb dX10_most_212 ?_
                                        refine lv_ixor hx hb dX10_most_213 ?_
                                        refine m_ld (v := r6 67 (Int32.toNatClampNeg (y ^^^ (1 <<< (x6 &&& 31))))) S hG 67 rfl (show vp_in (y ^^^ (1 <<< (x6 &&& 31))) 4096 from by rw [ex6]; exact mo_x ey (by omega) (by omega)) dX10_most_214 (rfl) ?_
                                        refine lv_iconst (v := 1) hx hb dX10_most_215 (by decide) ?_
                                        refine lv_iadd hx hb dX10_most_216 ?_
                                        refine lv_aload_n hx hb dX10_most_217 rfl (lv_at hl 0 rfl) ?_
                                        refine m_ga S hG 67 rfl (hts (.fieldLink RX10 174 "SwarmLineModel" "table" "[I") (by decide +kernel)) dX10_most_218 ?_
                                        refine lv_iload hx hb dX10_most_221 (lv_at hl 5 rfl) ?_
                                        refine m_ld (v := r6 67 (Int32.toNatClampNeg y)) S hG 67 rfl (show vp_in y 4096 from by rw [ey]; exact vp_in_i (by omega) (by omega)) dX10_most_223 (rfl) ?_
                                        refine lv_icmp_le (tgt := 248) hx hb dX10_most_224 (by decide) (fun c224 => ?_) (fun c224 => ?_)
                                        ·
                                          refine lv_iinc (v := x6 + 1) (lv' := [(6, .int (x6 + 1)), (0, .ref (ad 0)), (1, .int nn), (2, .int al), (3, .int x3), (4, .int b), (5, .int y)]) hx hb dX10_most_248 hl (k := 6) rfl (by rfl) (by decide) rfl (fun ls hl => ?_)
                                          refine lv_goto (tgt := 155) hx hb dX10_most_251 (by decide) ?_
                                          exact ih6  (i6 + 1) (x6 + 1) r6 (by rw [ex6]; exact nI_1 i6) (hlt6) (by omega) (by show _ = moC y b i6 (moK y b r4 i6); rw [← hr6]; simp only [moC, ← ex6, eq_false c171, eq_false c181, eq_false c197, eq_true c224, ↓reduceIte]) _ _ hG hL _ (lv_sub hl [1, 2, 3, 4, 5, 6, 0] rfl)
                                        ·
                                          refine lv_aload_n hx hb dX10_most_227 rfl (lv_at hl 0 rfl) ?_
                                          refine m_ga S hG 67 rfl (hts (.fieldLink RX10 174 "SwarmLineModel" "table" "[I") (by decide +kernel)) dX10_most_228 ?_
                                          refine lv_iload hx hb dX10_most_231 (lv_at hl 5 rfl) ?_
                                          refine lv_aload_n hx hb dX10_most_233 rfl (lv_at hl 0 rfl) ?_
                                          refine m_ga S hG 67 rfl (hts (.fieldLink RX10 174 "SwarmLineModel" "table" "[I") (by decide +kernel)) dX10_most_234 ?_
                                          refine lv_iload hx hb dX10_most_237 (lv_at hl 5 rfl) ?_
                                          refine lv_iconst (v := 1) hx hb dX10_most_239 (by decide) ?_
                                          refine lv_iload hx hb dX10_most_240 (lv_at hl 6 rfl) ?_
                                          refine lv_ishl hx hb dX10_most_242 ?_
                                          refine lv_ixor hx hb dX10_most_243 ?_
                                          refine m_ld (v := r6 67 (Int32.toNatClampNeg (y ^^^ (1 <<< (x6 &&& 31))))) S hG 67 rfl (show vp_in (y ^^^ (1 <<< (x6 &&& 31))) 4096 from by rw [ex6]; exact mo_x ey (by omega) (by omega)) dX10_most_244 (rfl) ?_
                                          refine lv_iconst (v := 1) hx hb dX10_most_245 (by decide) ?_
                                          refine lv_iadd hx hb dX10_most_246 ?_
                                          refine m_st S hG hL 67 rfl (show vp_in y 4096 from by rw [ey]; exact vp_in_i (by omega) (by omega)) dX10_most_247 (fun H locs hG hL => ?_)
                                          refine lv_iinc (v := x6 + 1) (lv' := [(6, .int (x6 + 1)), (0, .ref (ad 0)), (1, .int nn), (2, .int al), (3, .int x3), (4, .int b), (5, .int y)]) hx hb dX10_most_248 hl (k := 6) rfl (by rfl) (by decide) rfl (fun ls hl => ?_)
                                          refine lv_goto (tgt := 155) hx hb dX10_most_251 (by decide) ?_
                                          exact ih6  (i6 + 1) (x6 + 1) (up2 r6 67 (Int32.toNatClampNeg y) ((r6 67 (Int32.toNatClampNeg (y ^^^ (1 <<< (x6 &&& 31))))) + 1)) (by rw [ex6]; exact nI_1 i6) (hlt6) (by omega) (by show _ = moC y b i6 (moK y b r4 i6); rw [← hr6]; simp only [moC, ← ex6, eq_false c171, eq_false c181, eq_false c197, eq_false c224, ↓reduceIte]) _ _ hG hL _ (lv_sub hl [1, 2, 3, 4, 5, 6, 0] rfl)
                                      ·
                                        refine lv_goto (tgt := 248) hx hb dX10_most_200 (by decide) ?_
                                        refine lv_iinc (v := x6 + 1) (lv' := [(6, .int (x6 + 1)), (0, .ref (ad 0)), (1, .int nn), (2, .int al), (3, .int x3), (4, .int b), (5, .int y)]) hx hb dX10_most_248 hl (k := 6) rfl (by rfl) (by decide) rfl (fun ls hl => ?_)
                                        refine lv_goto (tgt := 155) hx hb dX10_most_251 (by decide) ?_
                                        exact ih6  (i6 + 1) (x6 + 1) r6 (by rw [ex6]; exact nI_1 i6) (hlt6) (by omega) (by show _ = moC y b i6 (moK y b r4 i6); rw [← hr6]; simp only [moC, ← ex6, eq_false c171, eq_false c181, eq_true c197, ↓reduceIte]) _ _ hG hL _ (lv_sub hl [1, 2, 3, 4, 5, 6, 0] rfl)
                            exact LC ((s 26).toNatClampNeg + 1) 0 0 r4 (rfl) (Nat.zero_le _) (by omega) (rfl) _ _ hG hL _ (lv_sub hl [1, 2, 3, 4, 5, 6, 0] rfl)
                      exact LB (2 ^ (s 26).toNatClampNeg) (2 ^ (s 26).toNatClampNeg - 1) (al - 1) r3 (by rw [hal]; rw [show 2 ^ (s 26).toNatClampNeg = (2 ^ (s 26).toNatClampNeg - 1) + 1 by omega]; exact nI_pred _) (by omega) (by omega) (rfl) (o9) _ _ hG hL _ (lv_sub hl [1, 2, 3, 4, 5, 0] rfl)
                    ·
                      have hlt5 := cl_lt h2 hi5 (ex5 ▸ c105); have hcv : vp_in ((mo2 (moA s r) (2 ^ (s 26).toNatClampNeg)) 68 i3) 60 := by { rw [← o8 68 (by decide), o9 68 (by decide)]; exact hoc i3 (by rw [← hnx]; exact hlt3) }
                      refine lv_iload hx hb dX10_most_108 (lv_at hl 4 rfl) ?_
                      refine lv_aload_n hx hb dX10_most_110 rfl (lv_at hl 0 rfl) ?_
                      refine lv_iload hx hb dX10_most_111 (lv_at hl 5 rfl) ?_
                      refine lv_aload_n hx hb dX10_most_113 rfl (lv_at hl 0 rfl) ?_
                      refine m_ga S hG 68 rfl (hts (.fieldLink RX10 177 "SwarmLineModel" "openCase" "[I") (by decide +kernel)) dX10_most_114 ?_
                      refine lv_iload_n hx hb dX10_most_117 rfl (lv_at hl 3 rfl) ?_
                      refine m_ldj (j := i3) (v := ((mo2 (moA s r) (2 ^ (s 26).toNatClampNeg)) 68 i3)) S hG 68 rfl hii3 (show vp_in x3 8 from by rw [ex3]; exact vp_in_i (by omega) (by omega)) dX10_most_118 (by rw [o8 68 (by decide)]) ?_
                      refine m_callV (n := 2) (As := [.int x5, .int ((mo2 (moA s r) (2 ^ (s 26).toNatClampNeg)) 68 i3)]) (rest := [.int b]) (st1 := .int (fCo x5 ((mo2 (moA s r) (2 ^ (s 26).toNatClampNeg)) 68 i3) s r) :: [.int b]) S hG hL (c_X10_could hlv x5 ((mo2 (moA s r) (2 ^ (s 26).toNatClampNeg)) 68 i3) (upd s 0 0) r3 (by rw [ex5]; exact vp_in_i (by omega) (by omega)) (hcv) (by rw [o9 31 (by decide), ho 31 (by decide) (by decide), hii5]; exact hP i5 hlt5) (by rw [o9 46 (by decide), ho 46 (by decide) (by decide)]; exact hS _ (by have q := vp_in_iff.mp hcv; have q2 := t_ix q.1; omega))) gX10_most_X10_could rfl (by decide +kernel) ⟨Nat.le_of_ble_eq_true rfl, Nat.le_of_ble_eq_true rfl⟩ rfl hl.1 rfl (Nat.le_of_ble_eq_true rfl) dX10_most_119 ⟨Nat.zero_le _, Nat.zero_le _⟩ (by rw [show fCo x5 ((mo2 (moA s r) (2 ^ (s 26).toNatClampNeg)) 68 i3) (upd s 0 0) r3 = fCo x5 ((mo2 (moA s r) (2 ^ (s 26).toNatClampNeg)) 68 i3) s r from fCo_eq rfl (fun f h1 h2 => (o9 f h1).trans (ho f h1 h2))]; rfl) (fun H locs hG hL => ?_)
                      refine lv_if_eq (tgt := 132) hx hb dX10_most_122 (by decide) (fun c122 => ?_) (fun c122 => ?_)
                      ·
                        refine lv_iconst (v := 0) hx hb dX10_most_132 (by decide) ?_
                        refine lv_ior hx hb dX10_most_133 ?_
                        refine lv_istore (lv' := [(4, .int (b ||| 0)), (0, .ref (ad 0)), (1, .int nn), (2, .int al), (3, .int x3), (5, .int x5)]) hx hb dX10_most_134 hl (by decide) rfl (fun ls hl => ?_)
                        refine lv_iinc (v := x5 + 1) (lv' := [(5, .int (x5 + 1)), (4, .int (b ||| 0)), (0, .ref (ad 0)), (1, .int nn), (2, .int al), (3, .int x3)]) hx hb dX10_most_136 hl (k := 5) rfl (by rfl) (by decide) rfl (fun ls hl => ?_)
                        refine lv_goto (tgt := 99) hx hb dX10_most_139 (by decide) ?_
                        exact ih5  (i5 + 1) (x5 + 1) (b ||| 0) (by rw [ex5]; exact nI_1 i5) (hlt5) (by omega) (by rw [hb4]; simp only [moBits, ← ex5, eq_true c122, ↓reduceIte]) _ _ hG hL _ (lv_sub hl [2, 3, 4, 5, 1, 0] rfl)
                      ·
                        refine lv_iconst (v := 1) hx hb dX10_most_125 (by decide) ?_
                        refine lv_iload hx hb dX10_most_126 (lv_at hl 5 rfl) ?_
                        refine lv_ishl hx hb dX10_most_128 ?_
                        refine lv_goto (tgt := 133) hx hb dX10_most_129 (by decide) ?_
                        refine lv_ior hx hb dX10_most_133 ?_
                        refine lv_istore (lv' := [(4, .int (b ||| (1 <<< (x5 &&& 31)))), (0, .ref (ad 0)), (1, .int nn), (2, .int al), (3, .int x3), (5, .int x5)]) hx hb dX10_most_134 hl (by decide) rfl (fun ls hl => ?_)
                        refine lv_iinc (v := x5 + 1) (lv' := [(5, .int (x5 + 1)), (4, .int (b ||| (1 <<< (x5 &&& 31)))), (0, .ref (ad 0)), (1, .int nn), (2, .int al), (3, .int x3)]) hx hb dX10_most_136 hl (k := 5) rfl (by rfl) (by decide) rfl (fun ls hl => ?_)
                        refine lv_goto (tgt := 99) hx hb dX10_most_139 (by decide) ?_
                        exact ih5  (i5 + 1) (x5 + 1) (b ||| (1 <<< (x5 &&& 31))) (by rw [ex5]; exact nI_1 i5) (hlt5) (by omega) (by rw [hb4]; simp only [moBits, ← ex5, eq_false c122, ↓reduceIte]) _ _ hG hL _ (lv_sub hl [2, 3, 4, 5, 1, 0] rfl)
                exact L9 ((s 26).toNatClampNeg + 1) 0 0 0 (rfl) (Nat.zero_le _) (by omega) (rfl) _ _ hG hL _ (lv_sub hl [2, 3, 4, 5, 1, 0] rfl)
          exact L8 ((nn).toNatClampNeg + 1) 0 0 r2 (rfl) (Nat.zero_le _) (by omega) (by rw [hr2, hEq2, hal, ix_nI (by omega)]; rfl) _ _ hG hL _ (lv_sub hl [1, 2, 3, 0] rfl)
        ·
          have hlt2 := cl_lt ga0 hi2 (ex2 ▸ c62)
          refine lv_aload_n hx hb dX10_most_65 rfl (lv_at hl 0 rfl) ?_
          refine m_ga S hG 67 rfl (hts (.fieldLink RX10 174 "SwarmLineModel" "table" "[I") (by decide +kernel)) dX10_most_66 ?_
          refine lv_iload_n hx hb dX10_most_69 rfl (lv_at hl 3 rfl) ?_
          refine lv_iload_n hx hb dX10_most_70 rfl (lv_at hl 3 rfl) ?_
          refine lv_if_ne (tgt := 78) hx hb dX10_most_71 (by decide) (fun c71 => ?_) (fun c71 => ?_)
          ·
            refine lv_iconst (v := (-1)) hx hb dX10_most_78 (by decide) ?_
            refine m_stj (j := i2) S hG hL 67 rfl hii2 (show vp_in x2 4096 from by rw [ex2]; exact vp_in_i (by omega) (by omega)) dX10_most_79 (fun H locs hG hL => ?_)
            refine lv_iinc (v := x2 + 1) (lv' := [(3, .int (x2 + 1)), (0, .ref (ad 0)), (1, .int nn), (2, .int al)]) hx hb dX10_most_80 hl (k := 3) rfl (by rfl) (by decide) rfl (fun ls hl => ?_)
            refine lv_goto (tgt := 60) hx hb dX10_most_83 (by decide) ?_
            exact ih2  (i2 + 1) (x2 + 1) al (up2 r2 67 i2 (-1)) (by rw [ex2]; exact nI_1 i2) (hlt2) (by omega) (hal) (by rw [hr2]; simp only [mo2, ← ex2, eq_false c71, ↓reduceIte]) _ _ hG hL _ (lv_sub hl [1, 2, 3, 0] rfl)
          ·
            refine lv_iconst (v := 0) hx hb dX10_most_74 (by decide) ?_
            refine lv_goto (tgt := 79) hx hb dX10_most_75 (by decide) ?_
            refine m_stj (j := i2) S hG hL 67 rfl hii2 (show vp_in x2 4096 from by rw [ex2]; exact vp_in_i (by omega) (by omega)) dX10_most_79 (fun H locs hG hL => ?_)
            refine lv_iinc (v := x2 + 1) (lv' := [(3, .int (x2 + 1)), (0, .ref (ad 0)), (1, .int nn), (2, .int al)]) hx hb dX10_most_80 hl (k := 3) rfl (by rfl) (by decide) rfl (fun ls hl => ?_)
            refine lv_goto (tgt := 60) hx hb dX10_most_83 (by decide) ?_
            exact ih2  (i2 + 1) (x2 + 1) al (up2 r2 67 i2 0) (by rw [ex2]; exact nI_1 i2) (hlt2) (by omega) (hal) (by rw [hr2]; simp only [mo2, ← ex2, eq_true c71, ↓reduceIte]) _ _ hG hL _ (lv_sub hl [1, 2, 3, 0] rfl)
    exact L6 (2 ^ (s 26).toNatClampNeg + 1) 0 0 (1 <<< ((s 26) &&& 31)) rv (rfl) (Nat.zero_le _) (by rw [hal0, ix_nI (by omega)]; omega) (hal0) (hrv) _ _ hG hL _ (lv_sub hl [2, 3, 1, 0] rfl)
  refine lv_iconst (v := 0) hx hb dX10_most_5 (by decide) ?_
  refine lv_istore_n (lv' := [(1, .int 0), (0, .ref (ad 0))]) hx hb dX10_most_6 rfl hl (by decide) rfl (fun ls hl => ?_)
  refine lv_iconst (v := 0) hx hb dX10_most_7 (by decide) ?_
  refine lv_istore_n (lv' := [(2, .int 0), (1, .int 0), (0, .ref (ad 0))]) hx hb dX10_most_8 rfl hl (by decide) rfl (fun ls hl => ?_)
  have L1 : ∀ (n1 : Nat) (c : Nat) (xc : Int32) (N : Nat) (xn : Int32) (rv : Nat → Nat → Int32) (exc : xc = nI c) (exn : xn = nI N) (hc : c ≤ (s 39).toNatClampNeg) (hN : N ≤ 8) (hn1 : (s 39).toNatClampNeg + 1 ≤ c + n1) (hX : mo1 ((s 39).toNatClampNeg - c) c N rv = mo1 (s 39).toNatClampNeg 0 0 r) (ho : oth r rv) (hoc : ∀ i, i < N → vp_in (rv 68 i) 60), ∀ (H : Heap) (locs : List Loc), gW D Hb lv ad (mJ ce0 ad cI cZ (upd s 0 0) rv) H → gL Hb locs → ∀ (ls : Array Slot), lv_has ls 7 [(0, .ref (ad 0)), (1, .int xn), (2, .int xc)] → W p0 l e0 (headSpec wsX10_most { frames := 3, cells := 0, slots := 0, locals := 71 }).room s0 m0 ([.ref (ad 0)] : List Value).toArray below meth c0 H locs 0 0 (MQ below (gQ D Hb lv ad (some (.int (moV s r))) (mJ ce0 ad cI cZ (upd s 0 0) (moR s r))) ([.ref (ad 0)] : List Value).toArray s0 0 0 (gA Hb)) (F0 m0 9 ls []) := by
    intro n1
    induction n1 with
    | zero => intro c xc N xn rv exc exn hc hN hn1 hX ho hoc; exact absurd hn1 (by omega)
    | succ n1 ih1 =>
      intro c xc N xn rv exc exn hc hN hn1 hX ho hoc H locs hG hL ls hl
      have hb39 : (s 39).toNatClampNeg ≤ 60 := t_ixl h0 h1; have hiic : Int32.toNatClampNeg xc = c := by { rw [exc]; exact ix_nI (by omega) }; have hiin : Int32.toNatClampNeg xn = N := by { rw [exn]; exact ix_nI (by omega) }
      refine lv_iload_n hx hb dX10_most_9 rfl (lv_at hl 2 rfl) ?_
      refine lv_aload_n hx hb dX10_most_10 rfl (lv_at hl 0 rfl) ?_
      refine m_gi (v := s 39) S hG 39 rfl (hts (.fieldLink RX10 192 "SwarmLineModel" "cases" "I") (by decide +kernel)) dX10_most_11 rfl ?_
      refine lv_icmp_ge (tgt := 51) hx hb dX10_most_14 (by decide) (fun c14 => ?_) (fun c14 => ?_)
      ·
        have hEqc := cl_ge h0 hc (exc ▸ c14)
        exact L5  xn rv (by rw [exn]; have q := hX; rw [hEqc, Nat.sub_self] at q; rw [moN, ← q]; rfl) (by have q := hX; rw [hEqc, Nat.sub_self] at q; rw [moA, ← q]; rfl) (by have q := hX; rw [hEqc, Nat.sub_self] at q; rw [moN, ← q]; exact hN) (ho) (by have q := hX; rw [hEqc, Nat.sub_self] at q; rw [moN, ← q]; exact hoc) _ _ hG hL _ (lv_sub hl [0, 1] rfl)
      ·
        have hltc := cl_lt h0 hc (exc ▸ c14)
        refine lv_iload_n hx hb dX10_most_17 rfl (lv_at hl 1 rfl) ?_
        refine lv_bipush (v := 8) hx hb dX10_most_18 (by decide) ?_
        refine lv_icmp_ge (tgt := 51) hx hb dX10_most_20 (by decide) (fun c20 => ?_) (fun c20 => ?_)
        ·
          have h8 : 8 ≤ N := (nle (by omega) (by omega)).mp (exn ▸ c20 : nI 8 ≤ nI N)
          exact L5  xn rv (by rw [exn]; have q := hX; rw [show (s 39).toNatClampNeg - c = ((s 39).toNatClampNeg - (c + 1)) + 1 by omega] at q; simp only [mo1, eq_true h8, ↓reduceIte] at q; rw [moN, ← q]) (by have q := hX; rw [show (s 39).toNatClampNeg - c = ((s 39).toNatClampNeg - (c + 1)) + 1 by omega] at q; simp only [mo1, eq_true h8, ↓reduceIte] at q; rw [moA, ← q]) (by have q := hX; rw [show (s 39).toNatClampNeg - c = ((s 39).toNatClampNeg - (c + 1)) + 1 by omega] at q; simp only [mo1, eq_true h8, ↓reduceIte] at q; rw [moN, ← q]; exact hN) (ho) (by have q := hX; rw [show (s 39).toNatClampNeg - c = ((s 39).toNatClampNeg - (c + 1)) + 1 by omega] at q; simp only [mo1, eq_true h8, ↓reduceIte] at q; rw [moN, ← q]; exact hoc) _ _ hG hL _ (lv_sub hl [0, 1] rfl)
        ·
          have h8 : ¬ 8 ≤ N := (not_congr (nle (by omega) (by omega))).mp (exn ▸ c20 : ¬ nI 8 ≤ nI N)
          refine lv_aload_n hx hb dX10_most_23 rfl (lv_at hl 0 rfl) ?_
          refine m_ga S hG 41 rfl (hts (.fieldLink RX10 112 "SwarmLineModel" "caseState" "[I") (by decide +kernel)) dX10_most_24 ?_
          refine lv_iload_n hx hb dX10_most_27 rfl (lv_at hl 2 rfl) ?_
          refine m_ldj (j := c) (v := rv 41 c) S hG 41 rfl hiic (show vp_in xc 60 from by rw [exc]; exact vp_in_i (by omega) (by omega)) dX10_most_28 (rfl) ?_
          refine lv_if_eq (tgt := 35) hx hb dX10_most_29 (by decide) (fun c29 => ?_) (fun c29 => ?_)
          ·
            refine lv_aload_n hx hb dX10_most_35 rfl (lv_at hl 0 rfl) ?_
            refine m_ga S hG 68 rfl (hts (.fieldLink RX10 177 "SwarmLineModel" "openCase" "[I") (by decide +kernel)) dX10_most_36 ?_
            refine lv_iload_n hx hb dX10_most_39 rfl (lv_at hl 1 rfl) ?_
            refine lv_iload_n hx hb dX10_most_40 rfl (lv_at hl 2 rfl) ?_
            refine m_stj (j := N) S hG hL 68 rfl hiin (show vp_in xn 8 from by rw [exn]; exact vp_in_i (by omega) (by omega)) dX10_most_41 (fun H locs hG hL => ?_)
            refine lv_iinc (v := xn + 1) (lv' := [(1, .int (xn + 1)), (0, .ref (ad 0)), (2, .int xc)]) hx hb dX10_most_42 hl (k := 1) rfl (by rfl) (by decide) rfl (fun ls hl => ?_)
            refine lv_iinc (v := xc + 1) (lv' := [(2, .int (xc + 1)), (1, .int (xn + 1)), (0, .ref (ad 0))]) hx hb dX10_most_45 hl (k := 2) rfl (by rfl) (by decide) rfl (fun ls hl => ?_)
            refine lv_goto (tgt := 9) hx hb dX10_most_48 (by decide) ?_
            exact ih1  (c + 1) (xc + 1) (N + 1) (xn + 1) (up2 rv 68 N xc) (by rw [exc]; exact nI_1 c) (by rw [exn]; exact nI_1 N) (hltc) (by omega) (by omega) (by rw [← hX, show (s 39).toNatClampNeg - c = ((s 39).toNatClampNeg - (c + 1)) + 1 by omega]; simp only [mo1, eq_false h8, eq_true c29, ↓reduceIte, exc]) (oth_68 ho _ _) (oc_up hoc (by rw [exc]; exact vp_in_i (by omega) (by omega))) _ _ hG hL _ (lv_sub hl [2, 1, 0] rfl)
          ·
            refine lv_goto (tgt := 45) hx hb dX10_most_32 (by decide) ?_
            refine lv_iinc (v := xc + 1) (lv' := [(2, .int (xc + 1)), (0, .ref (ad 0)), (1, .int xn)]) hx hb dX10_most_45 hl (k := 2) rfl (by rfl) (by decide) rfl (fun ls hl => ?_)
            refine lv_goto (tgt := 9) hx hb dX10_most_48 (by decide) ?_
            exact ih1  (c + 1) (xc + 1) N xn rv (by rw [exc]; exact nI_1 c) (exn) (hltc) (by omega) (by omega) (by rw [← hX, show (s 39).toNatClampNeg - c = ((s 39).toNatClampNeg - (c + 1)) + 1 by omega]; simp only [mo1, eq_false h8, eq_false c29, ↓reduceIte, exc]) (ho) (hoc) _ _ hG hL _ (lv_sub hl [1, 2, 0] rfl)
  exact L1 ((s 39).toNatClampNeg + 1) 0 0 0 0 r (rfl) (rfl) (Nat.zero_le _) (by omega) (by omega) (by rw [Nat.sub_zero]) (fun _ _ _ => rfl) (fun i hi => absurd hi (by omega)) _ _ hG hL _ (lv_sub hl [2, 1, 0] rfl)
