/-! an hour -/
theorem i03 : ((0 : Int32) < 3) = True := eq_true (by decide)
def viF (c : Nat) (r : Nat → Nat → Int32) : Nat → Int32 × Int32
  | 0 => (-1, 2)
  | n + 1 => if r 15 n = 0 then (if fSt (r 18 n) (r 19 n) (r 42 c) (r 43 c) < (viF c r n).2 then (nI n, fSt (r 18 n) (r 19 n) (r 42 c) (r 43 c)) else viF c r n) else viF c r n
theorem viF_b (c : Nat) (r : Nat → Nat → Int32) : ∀ n, (viF c r n).1 = -1 ∨ ∃ j, j < n ∧ (viF c r n).1 = nI j
  | 0 => Or.inl rfl
  | n + 1 => by
    have ih := viF_b c r n
    have up : (viF c r n).1 = -1 ∨ ∃ j, j < n + 1 ∧ (viF c r n).1 = nI j := by
      rcases ih with h | ⟨j, h1, h2⟩
      · exact Or.inl h
      · exact Or.inr ⟨j, by omega, h2⟩
    unfold viF
    split
    · split
      · exact Or.inr ⟨n, by omega, rfl⟩
      · exact up
    · exact up
theorem viF_in {c : Nat} {r : Nat → Nat → Int32} {n : Nat} (hn : n ≤ 60) (h : ¬ (viF c r n).1 = -1) : vp_in (viF c r n).1 60 := by
  rcases viF_b c r n with q | ⟨j, h1, h2⟩
  · exact absurd q h
  · rw [h2]; exact vp_in_i (by omega) (by omega)
def vsF (c : Int32) (s : Nat → Int32) (r : Nat → Nat → Int32) : Int32 := (viF (Int32.toNatClampNeg c) r (s 14).toNatClampNeg).1
def vsR (k c : Int32) (s : Nat → Int32) (r : Nat → Nat → Int32) : Nat → Nat → Int32 :=
  if vsF c s r = -1 then up2 r 41 (Int32.toNatClampNeg c) 3
  else if r 20 (Int32.toNatClampNeg (vsF c s r)) ≤ r 30 (Int32.toNatClampNeg k) then
    up2 (up2 (up2 (up2 (up2 (up2 (up2 (up2 r 15 (Int32.toNatClampNeg (vsF c s r)) 1) 23 (Int32.toNatClampNeg (vsF c s r)) k) 24 (Int32.toNatClampNeg (vsF c s r)) (s 1)) 25 (Int32.toNatClampNeg (vsF c s r)) c) 29 (Int32.toNatClampNeg k) (r 29 (Int32.toNatClampNeg k) - 1)) 38 (Int32.toNatClampNeg k) (r 38 (Int32.toNatClampNeg k) + 1)) 41 (Int32.toNatClampNeg c) 2) 51 (Int32.toNatClampNeg c) (vsF c s r)
  else if r 20 (Int32.toNatClampNeg (vsF c s r)) ≤ r 45 (Int32.toNatClampNeg c) then up2 r 41 (Int32.toNatClampNeg c) 0
  else up2 (up2 r 41 (Int32.toNatClampNeg c) 0) 45 (Int32.toNatClampNeg c) (r 20 (Int32.toNatClampNeg (vsF c s r)))
def ot1 (k : Int32) (r : Nat → Nat → Int32) : Nat → Nat → Int32 := up2 r 35 (Int32.toNatClampNeg k) (r 35 (Int32.toNatClampNeg k) - 1)
def ot2 (k : Int32) (s : Nat → Int32) (r : Nat → Nat → Int32) : Nat → Nat → Int32 := vsR k (r 37 (Int32.toNatClampNeg k)) s (ot1 k r)
def otR (k : Int32) (s : Nat → Int32) (r : Nat → Nat → Int32) : Nat → Nat → Int32 :=
  if r 35 (Int32.toNatClampNeg k) - 1 ≤ 0 then
    (if r 34 (Int32.toNatClampNeg k) = 2 then up2 (up2 (ot1 k r) 34 (Int32.toNatClampNeg k) 0) 37 (Int32.toNatClampNeg k) (-1)
     else up2 (up2 (ot2 k s r) 34 (Int32.toNatClampNeg k) 2) 35 (Int32.toNatClampNeg k) (ot2 k s r 36 (Int32.toNatClampNeg k)))
  else ot1 k r
def nnM (h d : Int32) (r : Nat → Nat → Int32) : Int32 := r 9 (Int32.toNatClampNeg h) + r 9 (Int32.toNatClampNeg h) * r 3 (Int32.toNatClampNeg d) / 1000
def nnB (h d : Int32) (r : Nat → Nat → Int32) : Int32 := if nnM h d r ≤ 100000 then nnM h d r else 100000
def nnW (h d : Int32) (r : Nat → Nat → Int32) : Int32 := if r 2 (Int32.toNatClampNeg d) < 18 then 0 else r 12 (Int32.toNatClampNeg h) + 1
def nn1 (h d : Int32) (r : Nat → Nat → Int32) : Nat → Nat → Int32 := up2 (up2 r 9 (Int32.toNatClampNeg h) (nnB h d r)) 12 (Int32.toNatClampNeg h) (nnW h d r)
def nnC (h d : Int32) (s : Nat → Int32) (r : Nat → Nat → Int32) : Bool := if nnB h d r ≤ r 10 (Int32.toNatClampNeg h) then false else if nnW h d r < 3 then false else if s 14 = 60 then false else true
def nn2 (h d b : Int32) (s : Nat → Int32) (r r1 : Nat → Nat → Int32) : Nat → Nat → Int32 :=
  up2 (up2 (up2 (up2 (up2 (up2 (up2 (up2 (up2 (up2 (up2 (up2 (up2 (up2 r1 15 (Int32.toNatClampNeg (s 14)) 0) 16 (Int32.toNatClampNeg (s 14)) h) 17 (Int32.toNatClampNeg (s 14)) (b / 2)) 18 (Int32.toNatClampNeg (s 14)) (fHe (r 7 (Int32.toNatClampNeg h) + (b / 1000 + d - (b / 1000 + d) / 7 * 7) - 3))) 19 (Int32.toNatClampNeg (s 14)) (fHe (r 8 (Int32.toNatClampNeg h) + (b / 100 + d - (b / 100 + d) / 7 * 7) - 3))) 20 (Int32.toNatClampNeg (s 14)) (b / 10 - b / 10 / 9 * 9 + 1)) 21 (Int32.toNatClampNeg (s 14)) (s 1)) 22 (Int32.toNatClampNeg (s 14)) 60) 23 (Int32.toNatClampNeg (s 14)) (-1)) 24 (Int32.toNatClampNeg (s 14)) (-1)) 25 (Int32.toNatClampNeg (s 14)) (-1)) 9 (Int32.toNatClampNeg h) (b - b / 2)) 12 (Int32.toNatClampNeg h) 0) 13 (Int32.toNatClampNeg h) (s 1)
def nnS (h d : Int32) (s : Nat → Int32) (r : Nat → Nat → Int32) : Nat → Int32 := if nnC h d s r = true then upd s 14 (s 14 + 1) else s
def nnR (h d : Int32) (s : Nat → Int32) (r : Nat → Nat → Int32) : Nat → Nat → Int32 := if nnC h d s r = true then nn2 h d (nnB h d r) s r (nn1 h d r) else nn1 h d r
set_option maxHeartbeats 4000000 in
set_option maxRecDepth 100000 in
theorem c_X10_visit {l : Launch} {D : va_G} {cI cZ cB cO cR cJ : ClassId} {Hb : Heap} {lv : Nat → Prop} {ad : Nat → Nat} {ce0 : Nat → va_E} (hlv : lM lv) (k : Int32) (c : Int32) (s : Nat → Int32) (r : Nat → Nat → Int32) (h0 : 0 ≤ (s 14).toInt) (h1 : (s 14).toInt ≤ 60) (hk : vp_in k 12) (hc : vp_in c 60) : mMet l D cI cZ cB cO cR cJ Hb lv ad ce0 yX10_visit wsX10_visit 1 25 [.ref (ad 0), .int k, .int c] s r none s (vsR k c s r) := by
  refine Met.ofW (cc := cX10_visit) (maxL := 7) (ret := none) (by decide) rfl ?_
  intro p0 e0 s0 m0 args below meth c0 s₁ B hml hv
  obtain ⟨rfl, hG, hK⟩ := hv
  have hx := B.exec
  have hb := B.bytes
  have hr := B.returns
  have hts := atoms_spec (ws := wsX10_visit) B.pre
  have hown : s0.vm.findClass RX10 = some m0.cls := findClass_of_methodNamed B.named
  have hlocks := B.notSynchronized
  have S : mX p0 m0 c0 cX10_visit 7 s0 _ wsX10_visit D cI cZ cB cO cR cJ lv := ⟨⟨hx, hb, hml, hown, hts⟩, hK, fun w h => List.mem_cons_of_mem _ (List.mem_append_right _ h), hlv⟩
  have hL : gL Hb [] := gL.nil
  have hl := lv_entry ([.ref (ad 0), .int k, .int c]) (n := 7) (Nat.le_of_ble_eq_true rfl)
  rw [lg_entry_eq]
  generalize (lg_sl ([.ref (ad 0), .int k, .int c]) ++ List.replicate (7 - (lg_sl ([.ref (ad 0), .int k, .int c])).length) Slot.unset).toArray = ls at hl ⊢
  have hl : lv_has ls 7 [(0, .ref (ad 0)), (1, .int k), (2, .int c)] := hl
  refine lv_iconst (v := (-1)) hx hb dX10_visit_0 (by decide) ?_
  refine lv_istore_n (lv' := [(3, .int (-1)), (0, .ref (ad 0)), (1, .int k), (2, .int c)]) hx hb dX10_visit_1 rfl hl (by decide) rfl (fun ls hl => ?_)
  refine lv_iconst (v := 2) hx hb dX10_visit_2 (by decide) ?_
  refine lv_istore (lv' := [(4, .int 2), (3, .int (-1)), (0, .ref (ad 0)), (1, .int k), (2, .int c)]) hx hb dX10_visit_3 hl (by decide) rfl (fun ls hl => ?_)
  refine lv_iconst (v := 0) hx hb dX10_visit_5 (by decide) ?_
  refine lv_istore (lv' := [(5, .int 0), (4, .int 2), (3, .int (-1)), (0, .ref (ad 0)), (1, .int k), (2, .int c)]) hx hb dX10_visit_6 hl (by decide) rfl (fun ls hl => ?_)
  have LP : ∀ (n : Nat) (i : Nat) (x : Int32) (a : Int32) (b : Int32) (ex : x = nI i) (hi : i ≤ (s 14).toNatClampNeg) (hn : (s 14).toNatClampNeg + 1 ≤ i + n) (ha : (a, b) = viF (Int32.toNatClampNeg c) r i), ∀ (H : Heap) (locs : List Loc), gW D Hb lv ad (mJ ce0 ad cI cZ s r) H → gL Hb locs → ∀ (ls : Array Slot), lv_has ls 7 [(0, .ref (ad 0)), (1, .int k), (2, .int c), (3, .int a), (4, .int b), (5, .int x)] → W p0 l e0 (headSpec wsX10_visit { frames := 1, cells := 0, slots := 0, locals := 25 }).room s0 m0 ([.ref (ad 0), .int k, .int c] : List Value).toArray below meth c0 H locs 0 0 (MQ below (gQ D Hb lv ad none (mJ ce0 ad cI cZ s (vsR k c s r))) ([.ref (ad 0), .int k, .int c] : List Value).toArray s0 0 0 (gA Hb)) (F0 m0 8 ls []) := by
    intro n
    induction n with
    | zero => intro i x a b ex hi hn ha; exact absurd hn (by omega)
    | succ n ih =>
      intro i x a b ex hi hn ha H locs hG hL ls hl
      have hbd : (s 14).toNatClampNeg ≤ 60 := t_ixl h0 h1; have hii : Int32.toNatClampNeg x = i := by rw [ex]; exact ix_nI (by omega)
      refine lv_iload hx hb dX10_visit_8 (lv_at hl 5 rfl) ?_
      refine lv_aload_n hx hb dX10_visit_10 rfl (lv_at hl 0 rfl) ?_
      refine m_gi (v := s 14) S hG 14 rfl (hts (.fieldLink RX10 186 "SwarmLineModel" "swarms" "I") (by decide +kernel)) dX10_visit_11 rfl ?_
      refine lv_icmp_ge (tgt := 81) hx hb dX10_visit_14 (by decide) (fun c14 => ?_) (fun c14 => ?_)
      ·
        have hEq := cl_ge h0 hi (ex ▸ c14); have hv1 : vsF c s r = a := by { unfold vsF; rw [← hEq, ← ha] }
        refine lv_iload_n hx hb dX10_visit_81 rfl (lv_at hl 3 rfl) ?_
        refine lv_iconst (v := (-1)) hx hb dX10_visit_82 (by decide) ?_
        refine lv_icmp_ne (tgt := 94) hx hb dX10_visit_83 (by decide) (fun c83 => ?_) (fun c83 => ?_)
        ·
          refine lv_aload_n hx hb dX10_visit_94 rfl (lv_at hl 0 rfl) ?_
          refine m_ga S hG 20 rfl (hts (.fieldLink RX10 58 "SwarmLineModel" "swarmHeight" "[I") (by decide +kernel)) dX10_visit_95 ?_
          refine lv_iload_n hx hb dX10_visit_98 rfl (lv_at hl 3 rfl) ?_
          refine m_ld (v := r 20 (Int32.toNatClampNeg a)) S hG 20 rfl (show vp_in a 60 from by rw [← hv1]; exact viF_in (t_ixl h0 h1) (by show ¬ vsF c s r = -1; rw [hv1]; exact c83)) dX10_visit_99 (rfl) ?_
          refine lv_aload_n hx hb dX10_visit_100 rfl (lv_at hl 0 rfl) ?_
          refine m_ga S hG 30 rfl (hts (.fieldLink RX10 85 "SwarmLineModel" "keeperLadder" "[I") (by decide +kernel)) dX10_visit_101 ?_
          refine lv_iload_n hx hb dX10_visit_104 rfl (lv_at hl 1 rfl) ?_
          refine m_ld (v := r 30 (Int32.toNatClampNeg k)) S hG 30 rfl (show vp_in k 12 from hk) dX10_visit_105 (rfl) ?_
          refine lv_icmp_le (tgt := 144) hx hb dX10_visit_106 (by decide) (fun c106 => ?_) (fun c106 => ?_)
          ·
            refine lv_aload_n hx hb dX10_visit_144 rfl (lv_at hl 0 rfl) ?_
            refine m_ga S hG 15 rfl (hts (.fieldLink RX10 43 "SwarmLineModel" "swarmState" "[I") (by decide +kernel)) dX10_visit_145 ?_
            refine lv_iload_n hx hb dX10_visit_148 rfl (lv_at hl 3 rfl) ?_
            refine lv_iconst (v := 1) hx hb dX10_visit_149 (by decide) ?_
            refine m_st S hG hL 15 rfl (show vp_in a 60 from by rw [← hv1]; exact viF_in (t_ixl h0 h1) (by show ¬ vsF c s r = -1; rw [hv1]; exact c83)) dX10_visit_150 (fun H locs hG hL => ?_)
            refine lv_aload_n hx hb dX10_visit_151 rfl (lv_at hl 0 rfl) ?_
            refine m_ga S hG 23 rfl (hts (.fieldLink RX10 67 "SwarmLineModel" "swarmKeeper" "[I") (by decide +kernel)) dX10_visit_152 ?_
            refine lv_iload_n hx hb dX10_visit_155 rfl (lv_at hl 3 rfl) ?_
            refine lv_iload_n hx hb dX10_visit_156 rfl (lv_at hl 1 rfl) ?_
            refine m_st S hG hL 23 rfl (show vp_in a 60 from by rw [← hv1]; exact viF_in (t_ixl h0 h1) (by show ¬ vsF c s r = -1; rw [hv1]; exact c83)) dX10_visit_157 (fun H locs hG hL => ?_)
            refine lv_aload_n hx hb dX10_visit_158 rfl (lv_at hl 0 rfl) ?_
            refine m_ga S hG 24 rfl (hts (.fieldLink RX10 70 "SwarmLineModel" "swarmHour" "[I") (by decide +kernel)) dX10_visit_159 ?_
            refine lv_iload_n hx hb dX10_visit_162 rfl (lv_at hl 3 rfl) ?_
            refine lv_aload_n hx hb dX10_visit_163 rfl (lv_at hl 0 rfl) ?_
            refine m_gi (v := s 1) S hG 1 rfl (hts (.fieldLink RX10 206 "SwarmLineModel" "now" "I") (by decide +kernel)) dX10_visit_164 rfl ?_
            refine m_st S hG hL 24 rfl (show vp_in a 60 from by rw [← hv1]; exact viF_in (t_ixl h0 h1) (by show ¬ vsF c s r = -1; rw [hv1]; exact c83)) dX10_visit_167 (fun H locs hG hL => ?_)
            refine lv_aload_n hx hb dX10_visit_168 rfl (lv_at hl 0 rfl) ?_
            refine m_ga S hG 25 rfl (hts (.fieldLink RX10 73 "SwarmLineModel" "swarmCase" "[I") (by decide +kernel)) dX10_visit_169 ?_
            refine lv_iload_n hx hb dX10_visit_172 rfl (lv_at hl 3 rfl) ?_
            refine lv_iload_n hx hb dX10_visit_173 rfl (lv_at hl 2 rfl) ?_
            refine m_st S hG hL 25 rfl (show vp_in a 60 from by rw [← hv1]; exact viF_in (t_ixl h0 h1) (by show ¬ vsF c s r = -1; rw [hv1]; exact c83)) dX10_visit_174 (fun H locs hG hL => ?_)
            refine lv_aload_n hx hb dX10_visit_175 rfl (lv_at hl 0 rfl) ?_
            refine m_ga S hG 29 rfl (hts (.fieldLink RX10 82 "SwarmLineModel" "keeperBoxes" "[I") (by decide +kernel)) dX10_visit_176 ?_
            refine lv_iload_n hx hb dX10_visit_179 rfl (lv_at hl 1 rfl) ?_
            refine lv_dup2_11 hx hb dX10_visit_180 rfl rfl ?_
            refine m_ld (v := r 29 (Int32.toNatClampNeg k)) S hG 29 rfl (show vp_in k 12 from hk) dX10_visit_181 ((up2_n _ _ _ _ (by decide)).trans ((up2_n _ _ _ _ (by decide)).trans ((up2_n _ _ _ _ (by decide)).trans ((up2_n _ _ _ _ (by decide)).trans (rfl))))) ?_
            refine lv_iconst (v := 1) hx hb dX10_visit_182 (by decide) ?_
            refine lv_isub hx hb dX10_visit_183 ?_
            refine m_st S hG hL 29 rfl (show vp_in k 12 from hk) dX10_visit_184 (fun H locs hG hL => ?_)
            refine lv_aload_n hx hb dX10_visit_185 rfl (lv_at hl 0 rfl) ?_
            refine m_ga S hG 38 rfl (hts (.fieldLink RX10 109 "SwarmLineModel" "keeperHad" "[I") (by decide +kernel)) dX10_visit_186 ?_
            refine lv_iload_n hx hb dX10_visit_189 rfl (lv_at hl 1 rfl) ?_
            refine lv_dup2_11 hx hb dX10_visit_190 rfl rfl ?_
            refine m_ld (v := r 38 (Int32.toNatClampNeg k)) S hG 38 rfl (show vp_in k 12 from hk) dX10_visit_191 ((up2_n _ _ _ _ (by decide)).trans ((up2_n _ _ _ _ (by decide)).trans ((up2_n _ _ _ _ (by decide)).trans ((up2_n _ _ _ _ (by decide)).trans ((up2_n _ _ _ _ (by decide)).trans (rfl)))))) ?_
            refine lv_iconst (v := 1) hx hb dX10_visit_192 (by decide) ?_
            refine lv_iadd hx hb dX10_visit_193 ?_
            refine m_st S hG hL 38 rfl (show vp_in k 12 from hk) dX10_visit_194 (fun H locs hG hL => ?_)
            refine lv_aload_n hx hb dX10_visit_195 rfl (lv_at hl 0 rfl) ?_
            refine m_ga S hG 41 rfl (hts (.fieldLink RX10 112 "SwarmLineModel" "caseState" "[I") (by decide +kernel)) dX10_visit_196 ?_
            refine lv_iload_n hx hb dX10_visit_199 rfl (lv_at hl 2 rfl) ?_
            refine lv_iconst (v := 2) hx hb dX10_visit_200 (by decide) ?_
            refine m_st S hG hL 41 rfl (show vp_in c 60 from hc) dX10_visit_201 (fun H locs hG hL => ?_)
            refine lv_aload_n hx hb dX10_visit_202 rfl (lv_at hl 0 rfl) ?_
            refine m_ga S hG 51 rfl (hts (.fieldLink RX10 143 "SwarmLineModel" "caseSwarm" "[I") (by decide +kernel)) dX10_visit_203 ?_
            refine lv_iload_n hx hb dX10_visit_206 rfl (lv_at hl 2 rfl) ?_
            refine lv_iload_n hx hb dX10_visit_207 rfl (lv_at hl 3 rfl) ?_
            refine m_st S hG hL 51 rfl (show vp_in c 60 from hc) dX10_visit_208 (fun H locs hG hL => ?_)
            exact m_vret S hr hlocks hG hL dX10_visit_209 (by rfl) (by simp only [vsR, hv1, eq_true c14, eq_false c83, eq_true c106, ↓reduceIte])
          ·
            refine lv_aload_n hx hb dX10_visit_109 rfl (lv_at hl 0 rfl) ?_
            refine m_ga S hG 41 rfl (hts (.fieldLink RX10 112 "SwarmLineModel" "caseState" "[I") (by decide +kernel)) dX10_visit_110 ?_
            refine lv_iload_n hx hb dX10_visit_113 rfl (lv_at hl 2 rfl) ?_
            refine lv_iconst (v := 0) hx hb dX10_visit_114 (by decide) ?_
            refine m_st S hG hL 41 rfl (show vp_in c 60 from hc) dX10_visit_115 (fun H locs hG hL => ?_)
            refine lv_aload_n hx hb dX10_visit_116 rfl (lv_at hl 0 rfl) ?_
            refine m_ga S hG 45 rfl (hts (.fieldLink RX10 125 "SwarmLineModel" "caseHigh" "[I") (by decide +kernel)) dX10_visit_117 ?_
            refine lv_iload_n hx hb dX10_visit_120 rfl (lv_at hl 2 rfl) ?_
            refine m_ld (v := r 45 (Int32.toNatClampNeg c)) S hG 45 rfl (show vp_in c 60 from hc) dX10_visit_121 ((up2_n _ _ _ _ (by decide)).trans (rfl)) ?_
            refine lv_aload_n hx hb dX10_visit_122 rfl (lv_at hl 0 rfl) ?_
            refine m_ga S hG 20 rfl (hts (.fieldLink RX10 58 "SwarmLineModel" "swarmHeight" "[I") (by decide +kernel)) dX10_visit_123 ?_
            refine lv_iload_n hx hb dX10_visit_126 rfl (lv_at hl 3 rfl) ?_
            refine m_ld (v := r 20 (Int32.toNatClampNeg a)) S hG 20 rfl (show vp_in a 60 from by rw [← hv1]; exact viF_in (t_ixl h0 h1) (by show ¬ vsF c s r = -1; rw [hv1]; exact c83)) dX10_visit_127 ((up2_n _ _ _ _ (by decide)).trans (rfl)) ?_
            refine lv_icmp_ge (tgt := 143) hx hb dX10_visit_128 (by decide) (fun c128 => ?_) (fun c128 => ?_)
            ·
              exact m_vret S hr hlocks hG hL dX10_visit_143 (by rfl) (by simp only [vsR, hv1, eq_true c14, eq_false c83, eq_false c106, eq_true c128, ↓reduceIte])
            ·
              refine lv_aload_n hx hb dX10_visit_131 rfl (lv_at hl 0 rfl) ?_
              refine m_ga S hG 45 rfl (hts (.fieldLink RX10 125 "SwarmLineModel" "caseHigh" "[I") (by decide +kernel)) dX10_visit_132 ?_
              refine lv_iload_n hx hb dX10_visit_135 rfl (lv_at hl 2 rfl) ?_
              refine lv_aload_n hx hb dX10_visit_136 rfl (lv_at hl 0 rfl) ?_
              refine m_ga S hG 20 rfl (hts (.fieldLink RX10 58 "SwarmLineModel" "swarmHeight" "[I") (by decide +kernel)) dX10_visit_137 ?_
              refine lv_iload_n hx hb dX10_visit_140 rfl (lv_at hl 3 rfl) ?_
              refine m_ld (v := r 20 (Int32.toNatClampNeg a)) S hG 20 rfl (show vp_in a 60 from by rw [← hv1]; exact viF_in (t_ixl h0 h1) (by show ¬ vsF c s r = -1; rw [hv1]; exact c83)) dX10_visit_141 ((up2_n _ _ _ _ (by decide)).trans (rfl)) ?_
              refine m_st S hG hL 45 rfl (show vp_in c 60 from hc) dX10_visit_142 (fun H locs hG hL => ?_)
              exact m_vret S hr hlocks hG hL dX10_visit_143 (by rfl) (by simp only [vsR, hv1, eq_true c14, eq_false c83, eq_false c106, eq_false c128, ↓reduceIte])
        ·
          refine lv_aload_n hx hb dX10_visit_86 rfl (lv_at hl 0 rfl) ?_
          refine m_ga S hG 41 rfl (hts (.fieldLink RX10 112 "SwarmLineModel" "caseState" "[I") (by decide +kernel)) dX10_visit_87 ?_
          refine lv_iload_n hx hb dX10_visit_90 rfl (lv_at hl 2 rfl) ?_
          refine lv_iconst (v := 3) hx hb dX10_visit_91 (by decide) ?_
          refine m_st S hG hL 41 rfl (show vp_in c 60 from hc) dX10_visit_92 (fun H locs hG hL => ?_)
          exact m_vret S hr hlocks hG hL dX10_visit_93 (by rfl) (by simp only [vsR, hv1, eq_true c14, eq_true c83, ↓reduceIte])
      ·
        have hlt := cl_lt h0 hi (ex ▸ c14)
        refine lv_aload_n hx hb dX10_visit_17 rfl (lv_at hl 0 rfl) ?_
        refine m_ga S hG 18 rfl (hts (.fieldLink RX10 52 "SwarmLineModel" "swarmX" "[I") (by decide +kernel)) dX10_visit_18 ?_
        refine lv_iload hx hb dX10_visit_21 (lv_at hl 5 rfl) ?_
        refine m_ldj (j := i) (v := r 18 i) S hG 18 rfl hii (show vp_in x 60 from by rw [ex]; exact vp_in_i (by omega) (by omega)) dX10_visit_23 (rfl) ?_
        refine lv_aload_n hx hb dX10_visit_24 rfl (lv_at hl 0 rfl) ?_
        refine m_ga S hG 19 rfl (hts (.fieldLink RX10 55 "SwarmLineModel" "swarmY" "[I") (by decide +kernel)) dX10_visit_25 ?_
        refine lv_iload hx hb dX10_visit_28 (lv_at hl 5 rfl) ?_
        refine m_ldj (j := i) (v := r 19 i) S hG 19 rfl hii (show vp_in x 60 from by rw [ex]; exact vp_in_i (by omega) (by omega)) dX10_visit_30 (rfl) ?_
        refine lv_aload_n hx hb dX10_visit_31 rfl (lv_at hl 0 rfl) ?_
        refine m_ga S hG 42 rfl (hts (.fieldLink RX10 115 "SwarmLineModel" "caseX" "[I") (by decide +kernel)) dX10_visit_32 ?_
        refine lv_iload_n hx hb dX10_visit_35 rfl (lv_at hl 2 rfl) ?_
        refine m_ld (v := r 42 (Int32.toNatClampNeg c)) S hG 42 rfl (show vp_in c 60 from hc) dX10_visit_36 (rfl) ?_
        refine lv_aload_n hx hb dX10_visit_37 rfl (lv_at hl 0 rfl) ?_
        refine m_ga S hG 43 rfl (hts (.fieldLink RX10 118 "SwarmLineModel" "caseY" "[I") (by decide +kernel)) dX10_visit_38 ?_
        refine lv_iload_n hx hb dX10_visit_41 rfl (lv_at hl 2 rfl) ?_
        refine m_ld (v := r 43 (Int32.toNatClampNeg c)) S hG 43 rfl (show vp_in c 60 from hc) dX10_visit_42 (rfl) ?_
        refine m_callP (n := 4) (As := [.int (r 18 i), .int (r 19 i), .int (r 42 (Int32.toNatClampNeg c)), .int (r 43 (Int32.toNatClampNeg c))]) (rest := []) (st1 := .int (fSt (r 18 i) (r 19 i) (r 42 (Int32.toNatClampNeg c)) (r 43 (Int32.toNatClampNeg c))) :: []) S.1 (c_X10_steps (r 18 i) (r 19 i) (r 42 (Int32.toNatClampNeg c)) (r 43 (Int32.toNatClampNeg c))) gX10_visit_X10_steps rfl (by decide +kernel) ⟨Nat.le_of_ble_eq_true rfl, Nat.le_of_ble_eq_true rfl⟩ rfl hl.1 rfl (Nat.le_of_ble_eq_true rfl) dX10_visit_43 ⟨Nat.zero_le _, Nat.zero_le _⟩ rfl ?_
        refine lv_istore (lv' := [(6, .int (fSt (r 18 i) (r 19 i) (r 42 (Int32.toNatClampNeg c)) (r 43 (Int32.toNatClampNeg c)))), (0, .ref (ad 0)), (1, .int k), (2, .int c), (3, .int a), (4, .int b), (5, .int x)]) hx hb dX10_visit_46 hl (by decide) rfl (fun ls hl => ?_)
        refine lv_aload_n hx hb dX10_visit_48 rfl (lv_at hl 1 rfl) ?_
        refine m_ga S hG 15 rfl (hts (.fieldLink RX10 43 "SwarmLineModel" "swarmState" "[I") (by decide +kernel)) dX10_visit_49 ?_
        refine lv_iload hx hb dX10_visit_52 (lv_at hl 6 rfl) ?_
        refine m_ldj (j := i) (v := r 15 i) S hG 15 rfl hii (show vp_in x 60 from by rw [ex]; exact vp_in_i (by omega) (by omega)) dX10_visit_54 (rfl) ?_
        refine lv_if_ne (tgt := 75) hx hb dX10_visit_55 (by decide) (fun c55 => ?_) (fun c55 => ?_)
        ·
          refine lv_iinc (v := x + 1) (lv' := [(5, .int (x + 1)), (6, .int (fSt (r 18 i) (r 19 i) (r 42 (Int32.toNatClampNeg c)) (r 43 (Int32.toNatClampNeg c)))), (0, .ref (ad 0)), (1, .int k), (2, .int c), (3, .int a), (4, .int b)]) hx hb dX10_visit_75 hl (k := 6) rfl (by rfl) (by decide) rfl (fun ls hl => ?_)
          refine lv_goto (tgt := 8) hx hb dX10_visit_78 (by decide) ?_
          exact ih  (i + 1) (x + 1) a b (by rw [ex]; exact nI_1 i) (hlt) (by omega) (by have ha1 : b = (viF (Int32.toNatClampNeg c) r i).2 := congrArg Prod.snd ha; have q := c55; simp only [viF, ← ha1, eq_false c14, eq_false c55, ↓reduceIte]; exact ha) _ _ hG hL _ (lv_sub hl [2, 3, 4, 5, 6, 0] rfl)
        ·
          refine lv_iload hx hb dX10_visit_58 (lv_at hl 0 rfl) ?_
          refine lv_iload hx hb dX10_visit_60 (lv_at hl 5 rfl) ?_
          refine lv_icmp_lt (tgt := 68) hx hb dX10_visit_62 (by decide) (fun c62 => ?_) (fun c62 => ?_)
          ·
            refine lv_iload hx hb dX10_visit_68 (lv_at hl 6 rfl) ?_
            refine lv_istore_n (lv' := [(3, .int x), (6, .int (fSt (r 18 i) (r 19 i) (r 42 (Int32.toNatClampNeg c)) (r 43 (Int32.toNatClampNeg c)))), (0, .ref (ad 0)), (1, .int k), (2, .int c), (4, .int b), (5, .int x)]) hx hb dX10_visit_70 rfl hl (by decide) rfl (fun ls hl => ?_)
            refine lv_iload hx hb dX10_visit_71 (lv_at hl 1 rfl) ?_
            refine lv_istore (lv' := [(4, .int (fSt (r 18 i) (r 19 i) (r 42 (Int32.toNatClampNeg c)) (r 43 (Int32.toNatClampNeg c)))), (3, .int x), (6, .int (fSt (r 18 i) (r 19 i) (r 42 (Int32.toNatClampNeg c)) (r 43 (Int32.toNatClampNeg c)))), (0, .ref (ad 0)), (1, .int k), (2, .int c), (5, .int x)]) hx hb dX10_visit_73 hl (by decide) rfl (fun ls hl => ?_)
            refine lv_iinc (v := x + 1) (lv' := [(5, .int (x + 1)), (4, .int (fSt (r 18 i) (r 19 i) (r 42 (Int32.toNatClampNeg c)) (r 43 (Int32.toNatClampNeg c)))), (3, .int x), (6, .int (fSt (r 18 i) (r 19 i) (r 42 (Int32.toNatClampNeg c)) (r 43 (Int32.toNatClampNeg c)))), (0, .ref (ad 0)), (1, .int k), (2, .int c)]) hx hb dX10_visit_75 hl (k := 6) rfl (by rfl) (by decide) rfl (fun ls hl => ?_)
            refine lv_goto (tgt := 8) hx hb dX10_visit_78 (by decide) ?_
            exact ih  (i + 1) (x + 1) x (fSt (r 18 i) (r 19 i) (r 42 (Int32.toNatClampNeg c)) (r 43 (Int32.toNatClampNeg c))) (by rw [ex]; exact nI_1 i) (hlt) (by omega) (by have ha1 : b = (viF (Int32.toNatClampNeg c) r i).2 := congrArg Prod.snd ha; have q := c55; simp only [viF, ← ha1, eq_false c14, eq_true c55, eq_true c62, ↓reduceIte, ex]) _ _ hG hL _ (lv_sub hl [4, 5, 6, 2, 1, 0] rfl)
          ·
            refine lv_goto (tgt := 75) hx hb dX10_visit_65 (by decide) ?_
            refine lv_iinc (v := x + 1) (lv' := [(5, .int (x + 1)), (6, .int (fSt (r 18 i) (r 19 i) (r 42 (Int32.toNatClampNeg c)) (r 43 (Int32.toNatClampNeg c)))), (0, .ref (ad 0)), (1, .int k), (2, .int c), (3, .int a), (4, .int b)]) hx hb dX10_visit_75 hl (k := 6) rfl (by rfl) (by decide) rfl (fun ls hl => ?_)
            refine lv_goto (tgt := 8) hx hb dX10_visit_78 (by decide) ?_
            exact ih  (i + 1) (x + 1) a b (by rw [ex]; exact nI_1 i) (hlt) (by omega) (by have ha1 : b = (viF (Int32.toNatClampNeg c) r i).2 := congrArg Prod.snd ha; have q := c55; simp only [viF, ← ha1, eq_false c14, eq_true c55, eq_false c62, ↓reduceIte]; exact ha) _ _ hG hL _ (lv_sub hl [2, 3, 4, 5, 6, 0] rfl)
  exact LP ((s 14).toNatClampNeg + 1) 0 0 (-1) 2 (rfl) (Nat.zero_le _) (by omega) (rfl) _ _ hG hL _ (lv_sub hl [3, 4, 5, 2, 1, 0] rfl)
set_option maxHeartbeats 4000000 in
set_option maxRecDepth 100000 in
theorem c_X10_onTheWay {l : Launch} {D : va_G} {cI cZ cB cO cR cJ : ClassId} {Hb : Heap} {lv : Nat → Prop} {ad : Nat → Nat} {ce0 : Nat → va_E} (hlv : lM lv) (k : Int32) (s : Nat → Int32) (r : Nat → Nat → Int32) (h0 : 0 ≤ (s 14).toInt) (h1 : (s 14).toInt ≤ 60) (hk : vp_in k 12) (hv : ¬ r 34 (Int32.toNatClampNeg k) = 2 → vp_in (r 37 (Int32.toNatClampNeg k)) 60) : mMet l D cI cZ cB cO cR cJ Hb lv ad ce0 yX10_onTheWay wsX10_onTheWay 2 51 [.ref (ad 0), .int k] s r none s (otR k s r) := by
  refine Met.ofW (cc := cX10_onTheWay) (maxL := 2) (ret := none) (by decide) rfl ?_
  intro p0 e0 s0 m0 args below meth c0 s₁ B hml hv
  obtain ⟨rfl, hG, hK⟩ := hv
  have hx := B.exec
  have hb := B.bytes
  have hr := B.returns
  have hts := atoms_spec (ws := wsX10_onTheWay) B.pre
  have hown : s0.vm.findClass RX10 = some m0.cls := findClass_of_methodNamed B.named
  have hlocks := B.notSynchronized
  have S : mX p0 m0 c0 cX10_onTheWay 2 s0 _ wsX10_onTheWay D cI cZ cB cO cR cJ lv := ⟨⟨hx, hb, hml, hown, hts⟩, hK, fun w h => List.mem_cons_of_mem _ (List.mem_append_right _ h), hlv⟩
  have hL : gL Hb [] := gL.nil
  have hl := lv_entry ([.ref (ad 0), .int k]) (n := 2) (Nat.le_of_ble_eq_true rfl)
  rw [lg_entry_eq]
  generalize (lg_sl ([.ref (ad 0), .int k]) ++ List.replicate (2 - (lg_sl ([.ref (ad 0), .int k])).length) Slot.unset).toArray = ls at hl ⊢
  have hl : lv_has ls 2 [(0, .ref (ad 0)), (1, .int k)] := hl
  refine lv_aload_n hx hb dX10_onTheWay_0 rfl (lv_at hl 0 rfl) ?_
  refine m_ga S hG 35 rfl (hts (.fieldLink RX10 100 "SwarmLineModel" "keeperGo" "[I") (by decide +kernel)) dX10_onTheWay_1 ?_
  refine lv_iload_n hx hb dX10_onTheWay_4 rfl (lv_at hl 1 rfl) ?_
  refine lv_dup2_11 hx hb dX10_onTheWay_5 rfl rfl ?_
  refine m_ld (v := r 35 (Int32.toNatClampNeg k)) S hG 35 rfl (show vp_in k 12 from hk) dX10_onTheWay_6 (rfl) ?_
  refine lv_iconst (v := 1) hx hb dX10_onTheWay_7 (by decide) ?_
  refine lv_isub hx hb dX10_onTheWay_8 ?_
  refine m_st S hG hL 35 rfl (show vp_in k 12 from hk) dX10_onTheWay_9 (fun H locs hG hL => ?_)
  have hG : gW D Hb lv ad (mJ ce0 ad cI cZ s (ot1 k r)) H := hG
  refine lv_aload_n hx hb dX10_onTheWay_10 rfl (lv_at hl 0 rfl) ?_
  refine m_ga S hG 35 rfl (hts (.fieldLink RX10 100 "SwarmLineModel" "keeperGo" "[I") (by decide +kernel)) dX10_onTheWay_11 ?_
  refine lv_iload_n hx hb dX10_onTheWay_14 rfl (lv_at hl 1 rfl) ?_
  refine m_ld (v := (ot1 k r) 35 (Int32.toNatClampNeg k)) S hG 35 rfl (show vp_in k 12 from hk) dX10_onTheWay_15 (rfl) ?_
  refine lv_if_le (tgt := 20) hx hb dX10_onTheWay_16 (by decide) (fun c16 => ?_) (fun c16 => ?_)
  ·
    have c16 : r 35 (Int32.toNatClampNeg k) - 1 ≤ 0 := by simpa [ot1, up2_ss] using c16
    refine lv_aload_n hx hb dX10_onTheWay_20 rfl (lv_at hl 0 rfl) ?_
    refine m_ga S hG 34 rfl (hts (.fieldLink RX10 97 "SwarmLineModel" "keeperState" "[I") (by decide +kernel)) dX10_onTheWay_21 ?_
    refine lv_iload_n hx hb dX10_onTheWay_24 rfl (lv_at hl 1 rfl) ?_
    refine m_ld (v := (ot1 k r) 34 (Int32.toNatClampNeg k)) S hG 34 rfl (show vp_in k 12 from hk) dX10_onTheWay_25 (rfl) ?_
    refine lv_iconst (v := 2) hx hb dX10_onTheWay_26 (by decide) ?_
    refine lv_icmp_ne (tgt := 45) hx hb dX10_onTheWay_27 (by decide) (fun c27 => ?_) (fun c27 => ?_)
    ·
      have c27 : ¬ r 34 (Int32.toNatClampNeg k) = 2 := c27
      refine lv_aload_n hx hb dX10_onTheWay_45 rfl (lv_at hl 0 rfl) ?_
      refine lv_iload_n hx hb dX10_onTheWay_46 rfl (lv_at hl 1 rfl) ?_
      refine lv_aload_n hx hb dX10_onTheWay_47 rfl (lv_at hl 0 rfl) ?_
      refine m_ga S hG 37 rfl (hts (.fieldLink RX10 106 "SwarmLineModel" "keeperCase" "[I") (by decide +kernel)) dX10_onTheWay_48 ?_
      refine lv_iload_n hx hb dX10_onTheWay_51 rfl (lv_at hl 1 rfl) ?_
      refine m_ld (v := (ot1 k r) 37 (Int32.toNatClampNeg k)) S hG 37 rfl (show vp_in k 12 from hk) dX10_onTheWay_52 (rfl) ?_
      refine m_callV (n := 2) (As := [.int k, .int ((ot1 k r) 37 (Int32.toNatClampNeg k))]) (rest := []) (st1 := []) S hG hL (c_X10_visit hlv k ((ot1 k r) 37 (Int32.toNatClampNeg k)) s (ot1 k r) (h0) (h1) (hk) (hv c27)) gX10_onTheWay_X10_visit rfl (by decide +kernel) ⟨Nat.le_of_ble_eq_true rfl, Nat.le_of_ble_eq_true rfl⟩ rfl hl.1 rfl (Nat.le_of_ble_eq_true rfl) dX10_onTheWay_53 ⟨Nat.zero_le _, Nat.zero_le _⟩ (rfl) (fun H locs hG hL => ?_)
      have hG : gW D Hb lv ad (mJ ce0 ad cI cZ s (ot2 k s r)) H := hG
      refine lv_aload_n hx hb dX10_onTheWay_56 rfl (lv_at hl 0 rfl) ?_
      refine m_ga S hG 34 rfl (hts (.fieldLink RX10 97 "SwarmLineModel" "keeperState" "[I") (by decide +kernel)) dX10_onTheWay_57 ?_
      refine lv_iload_n hx hb dX10_onTheWay_60 rfl (lv_at hl 1 rfl) ?_
      refine lv_iconst (v := 2) hx hb dX10_onTheWay_61 (by decide) ?_
      refine m_st S hG hL 34 rfl (show vp_in k 12 from hk) dX10_onTheWay_62 (fun H locs hG hL => ?_)
      refine lv_aload_n hx hb dX10_onTheWay_63 rfl (lv_at hl 0 rfl) ?_
      refine m_ga S hG 35 rfl (hts (.fieldLink RX10 100 "SwarmLineModel" "keeperGo" "[I") (by decide +kernel)) dX10_onTheWay_64 ?_
      refine lv_iload_n hx hb dX10_onTheWay_67 rfl (lv_at hl 1 rfl) ?_
      refine lv_aload_n hx hb dX10_onTheWay_68 rfl (lv_at hl 0 rfl) ?_
      refine m_ga S hG 36 rfl (hts (.fieldLink RX10 103 "SwarmLineModel" "keeperWay" "[I") (by decide +kernel)) dX10_onTheWay_69 ?_
      refine lv_iload_n hx hb dX10_onTheWay_72 rfl (lv_at hl 1 rfl) ?_
      refine m_ld (v := (ot2 k s r) 36 (Int32.toNatClampNeg k)) S hG 36 rfl (show vp_in k 12 from hk) dX10_onTheWay_73 ((up2_n _ _ _ _ (by decide)).trans (rfl)) ?_
      refine m_st S hG hL 35 rfl (show vp_in k 12 from hk) dX10_onTheWay_74 (fun H locs hG hL => ?_)
      exact m_vret S hr hlocks hG hL dX10_onTheWay_75 (by rfl) (by simp only [otR, eq_true c16, eq_false c27, ↓reduceIte])
    ·
      have c27 : r 34 (Int32.toNatClampNeg k) = 2 := c27
      refine lv_aload_n hx hb dX10_onTheWay_30 rfl (lv_at hl 0 rfl) ?_
      refine m_ga S hG 34 rfl (hts (.fieldLink RX10 97 "SwarmLineModel" "keeperState" "[I") (by decide +kernel)) dX10_onTheWay_31 ?_
      refine lv_iload_n hx hb dX10_onTheWay_34 rfl (lv_at hl 1 rfl) ?_
      refine lv_iconst (v := 0) hx hb dX10_onTheWay_35 (by decide) ?_
      refine m_st S hG hL 34 rfl (show vp_in k 12 from hk) dX10_onTheWay_36 (fun H locs hG hL => ?_)
      refine lv_aload_n hx hb dX10_onTheWay_37 rfl (lv_at hl 0 rfl) ?_
      refine m_ga S hG 37 rfl (hts (.fieldLink RX10 106 "SwarmLineModel" "keeperCase" "[I") (by decide +kernel)) dX10_onTheWay_38 ?_
      refine lv_iload_n hx hb dX10_onTheWay_41 rfl (lv_at hl 1 rfl) ?_
      refine lv_iconst (v := (-1)) hx hb dX10_onTheWay_42 (by decide) ?_
      refine m_st S hG hL 37 rfl (show vp_in k 12 from hk) dX10_onTheWay_43 (fun H locs hG hL => ?_)
      exact m_vret S hr hlocks hG hL dX10_onTheWay_44 (by rfl) (by simp only [otR, eq_true c16, eq_true c27, ↓reduceIte])
  ·
    have c16 : ¬ r 35 (Int32.toNatClampNeg k) - 1 ≤ 0 := by simpa [ot1, up2_ss] using c16
    exact m_vret S hr hlocks hG hL dX10_onTheWay_19 (by rfl) (by simp only [otR, eq_false c16, ↓reduceIte])
set_option maxHeartbeats 4000000 in
set_option maxRecDepth 100000 in
theorem c_X10_noon {l : Launch} {D : va_G} {cI cZ cB cO cR cJ : ClassId} {Hb : Heap} {lv : Nat → Prop} {ad : Nat → Nat} {ce0 : Nat → va_E} (hlv : lM lv) (h : Int32) (d : Int32) (s : Nat → Int32) (r : Nat → Nat → Int32) (h0 : 0 ≤ (s 14).toInt) (h1 : (s 14).toInt ≤ 60) (hh : vp_in h 20) (hd : vp_in d 31) : mMet l D cI cZ cB cO cR cJ Hb lv ad ce0 yX10_noon wsX10_noon 1 20 [.ref (ad 0), .int h, .int d] s r none (nnS h d s r) (nnR h d s r) := by
  refine Met.ofW (cc := cX10_noon) (maxL := 6) (ret := none) (by decide) rfl ?_
  intro p0 e0 s0 m0 args below meth c0 s₁ B hml hv
  obtain ⟨rfl, hG, hK⟩ := hv
  have hx := B.exec
  have hb := B.bytes
  have hr := B.returns
  have hts := atoms_spec (ws := wsX10_noon) B.pre
  have hown : s0.vm.findClass RX10 = some m0.cls := findClass_of_methodNamed B.named
  have hlocks := B.notSynchronized
  have S : mX p0 m0 c0 cX10_noon 6 s0 _ wsX10_noon D cI cZ cB cO cR cJ lv := ⟨⟨hx, hb, hml, hown, hts⟩, hK, fun w h => List.mem_cons_of_mem _ (List.mem_append_right _ h), hlv⟩
  have hL : gL Hb [] := gL.nil
  have hl := lv_entry ([.ref (ad 0), .int h, .int d]) (n := 6) (Nat.le_of_ble_eq_true rfl)
  rw [lg_entry_eq]
  generalize (lg_sl ([.ref (ad 0), .int h, .int d]) ++ List.replicate (6 - (lg_sl ([.ref (ad 0), .int h, .int d])).length) Slot.unset).toArray = ls at hl ⊢
  have hl : lv_has ls 6 [(0, .ref (ad 0)), (1, .int h), (2, .int d)] := hl
  refine lv_aload_n hx hb dX10_noon_0 rfl (lv_at hl 0 rfl) ?_
  refine m_ga S hG 9 rfl (hts (.fieldLink RX10 28 "SwarmLineModel" "hiveBees" "[I") (by decide +kernel)) dX10_noon_1 ?_
  refine lv_iload_n hx hb dX10_noon_4 rfl (lv_at hl 1 rfl) ?_
  refine m_ld (v := r 9 (Int32.toNatClampNeg h)) S hG 9 rfl (show vp_in h 20 from hh) dX10_noon_5 (rfl) ?_
  refine lv_aload_n hx hb dX10_noon_6 rfl (lv_at hl 0 rfl) ?_
  refine m_ga S hG 9 rfl (hts (.fieldLink RX10 28 "SwarmLineModel" "hiveBees" "[I") (by decide +kernel)) dX10_noon_7 ?_
  refine lv_iload_n hx hb dX10_noon_10 rfl (lv_at hl 1 rfl) ?_
  refine m_ld (v := r 9 (Int32.toNatClampNeg h)) S hG 9 rfl (show vp_in h 20 from hh) dX10_noon_11 (rfl) ?_
  refine lv_aload_n hx hb dX10_noon_12 rfl (lv_at hl 0 rfl) ?_
  refine m_ga S hG 3 rfl (hts (.fieldLink RX10 13 "SwarmLineModel" "bloom" "[I") (by decide +kernel)) dX10_noon_13 ?_
  refine lv_iload_n hx hb dX10_noon_16 rfl (lv_at hl 2 rfl) ?_
  refine m_ld (v := r 3 (Int32.toNatClampNeg d)) S hG 3 rfl (show vp_in d 31 from hd) dX10_noon_17 (rfl) ?_
  refine lv_imul hx hb dX10_noon_18 ?_
  refine lv_sipush (v := 1000) hx hb dX10_noon_19 (by decide) ?_
  refine lv_idiv hx hb dX10_noon_22 (by decide) ?_
  refine lv_iadd hx hb dX10_noon_23 ?_
  refine lv_istore_n (lv' := [(3, .int ((r 9 (Int32.toNatClampNeg h)) + (((r 9 (Int32.toNatClampNeg h)) * (r 3 (Int32.toNatClampNeg d))) / 1000))), (0, .ref (ad 0)), (1, .int h), (2, .int d)]) hx hb dX10_noon_24 rfl hl (by decide) rfl (fun ls hl => ?_)
  refine lv_aload_n hx hb dX10_noon_25 rfl (lv_at hl 1 rfl) ?_
  refine m_ga S hG 9 rfl (hts (.fieldLink RX10 28 "SwarmLineModel" "hiveBees" "[I") (by decide +kernel)) dX10_noon_26 ?_
  refine lv_iload_n hx hb dX10_noon_29 rfl (lv_at hl 2 rfl) ?_
  refine lv_iload_n hx hb dX10_noon_30 rfl (lv_at hl 0 rfl) ?_
  refine lv_ldc (v := 100000) hx hb hown (hts (.constant RX10 209 100000) (by decide +kernel)) dX10_noon_31 ?_
  refine lv_icmp_le (tgt := 41) hx hb dX10_noon_33 (by decide) (fun c33 => ?_) (fun c33 => ?_)
  ·
    refine lv_iload_n hx hb dX10_noon_41 rfl (lv_at hl 0 rfl) ?_
    refine m_st S hG hL 9 rfl (show vp_in h 20 from hh) dX10_noon_42 (fun H locs hG hL => ?_)
    refine lv_aload_n hx hb dX10_noon_43 rfl (lv_at hl 1 rfl) ?_
    refine m_ga S hG 12 rfl (hts (.fieldLink RX10 37 "SwarmLineModel" "hiveWarm" "[I") (by decide +kernel)) dX10_noon_44 ?_
    refine lv_iload_n hx hb dX10_noon_47 rfl (lv_at hl 2 rfl) ?_
    refine lv_aload_n hx hb dX10_noon_48 rfl (lv_at hl 1 rfl) ?_
    refine m_ga S hG 2 rfl (hts (.fieldLink RX10 7 "SwarmLineModel" "warmth" "[I") (by decide +kernel)) dX10_noon_49 ?_
    refine lv_iload_n hx hb dX10_noon_52 rfl (lv_at hl 3 rfl) ?_
    refine m_ld (v := r 2 (Int32.toNatClampNeg d)) S hG 2 rfl (show vp_in d 31 from hd) dX10_noon_53 ((up2_n _ _ _ _ (by decide)).trans (rfl)) ?_
    refine lv_bipush (v := 18) hx hb dX10_noon_54 (by decide) ?_
    refine lv_icmp_lt (tgt := 70) hx hb dX10_noon_56 (by decide) (fun c56 => ?_) (fun c56 => ?_)
    ·
      refine lv_iconst (v := 0) hx hb dX10_noon_70 (by decide) ?_
      refine m_st S hG hL 12 rfl (show vp_in h 20 from hh) dX10_noon_71 (fun H locs hG hL => ?_)
      refine lv_aload_n hx hb dX10_noon_72 rfl (lv_at hl 1 rfl) ?_
      refine m_ga S hG 9 rfl (hts (.fieldLink RX10 28 "SwarmLineModel" "hiveBees" "[I") (by decide +kernel)) dX10_noon_73 ?_
      refine lv_iload_n hx hb dX10_noon_76 rfl (lv_at hl 2 rfl) ?_
      refine m_ld (v := (r 9 (Int32.toNatClampNeg h)) + (((r 9 (Int32.toNatClampNeg h)) * (r 3 (Int32.toNatClampNeg d))) / 1000)) S hG 9 rfl (show vp_in h 20 from hh) dX10_noon_77 ((up2_n _ _ _ _ (by decide)).trans (up2_ss ..)) ?_
      refine lv_istore (lv' := [(4, .int ((r 9 (Int32.toNatClampNeg h)) + (((r 9 (Int32.toNatClampNeg h)) * (r 3 (Int32.toNatClampNeg d))) / 1000))), (3, .int ((r 9 (Int32.toNatClampNeg h)) + (((r 9 (Int32.toNatClampNeg h)) * (r 3 (Int32.toNatClampNeg d))) / 1000))), (0, .ref (ad 0)), (1, .int h), (2, .int d)]) hx hb dX10_noon_78 hl (by decide) rfl (fun ls hl => ?_)
      refine lv_iload hx hb dX10_noon_80 (lv_at hl 0 rfl) ?_
      refine lv_aload_n hx hb dX10_noon_82 rfl (lv_at hl 2 rfl) ?_
      refine m_ga S hG 10 rfl (hts (.fieldLink RX10 31 "SwarmLineModel" "hiveRoom" "[I") (by decide +kernel)) dX10_noon_83 ?_
      refine lv_iload_n hx hb dX10_noon_86 rfl (lv_at hl 3 rfl) ?_
      refine m_ld (v := r 10 (Int32.toNatClampNeg h)) S hG 10 rfl (show vp_in h 20 from hh) dX10_noon_87 ((up2_n _ _ _ _ (by decide)).trans ((up2_n _ _ _ _ (by decide)).trans (rfl))) ?_
      refine lv_icmp_le (tgt := 110) hx hb dX10_noon_88 (by decide) (fun c88 => ?_) (fun c88 => ?_)
      ·
        exact m_vret S hr hlocks hG hL dX10_noon_110 (by simp only [nnS, nnC, nnB, nnW, nnM, eq_true c33, eq_true c56, eq_true c88, i03, ↓reduceIte, Bool.false_eq_true]) (by simp only [nnR, nnC, nn1, nn2, nnB, nnW, nnM, eq_true c33, eq_true c56, eq_true c88, i03, ↓reduceIte, Bool.false_eq_true])
      ·
        refine lv_aload_n hx hb dX10_noon_91 rfl (lv_at hl 2 rfl) ?_
        refine m_ga S hG 12 rfl (hts (.fieldLink RX10 37 "SwarmLineModel" "hiveWarm" "[I") (by decide +kernel)) dX10_noon_92 ?_
        refine lv_iload_n hx hb dX10_noon_95 rfl (lv_at hl 3 rfl) ?_
        refine m_ld (v := 0) S hG 12 rfl (show vp_in h 20 from hh) dX10_noon_96 (up2_ss ..) ?_
        refine lv_iconst (v := 3) hx hb dX10_noon_97 (by decide) ?_
        refine lv_icmp_lt (tgt := 110) hx hb dX10_noon_98 (by decide) (fun _ => ?_) (fun c => absurd c (by decide))
        exact m_vret S hr hlocks hG hL dX10_noon_110 (by simp only [nnS, nnC, nnB, nnW, nnM, eq_true c33, eq_true c56, eq_false c88, i03, ↓reduceIte, Bool.false_eq_true]) (by simp only [nnR, nnC, nn1, nn2, nnB, nnW, nnM, eq_true c33, eq_true c56, eq_false c88, i03, ↓reduceIte, Bool.false_eq_true])
    ·
      refine lv_aload_n hx hb dX10_noon_59 rfl (lv_at hl 1 rfl) ?_
      refine m_ga S hG 12 rfl (hts (.fieldLink RX10 37 "SwarmLineModel" "hiveWarm" "[I") (by decide +kernel)) dX10_noon_60 ?_
      refine lv_iload_n hx hb dX10_noon_63 rfl (lv_at hl 2 rfl) ?_
      refine m_ld (v := r 12 (Int32.toNatClampNeg h)) S hG 12 rfl (show vp_in h 20 from hh) dX10_noon_64 ((up2_n _ _ _ _ (by decide)).trans (rfl)) ?_
      refine lv_iconst (v := 1) hx hb dX10_noon_65 (by decide) ?_
      refine lv_iadd hx hb dX10_noon_66 ?_
      refine lv_goto (tgt := 71) hx hb dX10_noon_67 (by decide) ?_
      refine m_st S hG hL 12 rfl (show vp_in h 20 from hh) dX10_noon_71 (fun H locs hG hL => ?_)
      refine lv_aload_n hx hb dX10_noon_72 rfl (lv_at hl 1 rfl) ?_
      refine m_ga S hG 9 rfl (hts (.fieldLink RX10 28 "SwarmLineModel" "hiveBees" "[I") (by decide +kernel)) dX10_noon_73 ?_
      refine lv_iload_n hx hb dX10_noon_76 rfl (lv_at hl 2 rfl) ?_
      refine m_ld (v := (r 9 (Int32.toNatClampNeg h)) + (((r 9 (Int32.toNatClampNeg h)) * (r 3 (Int32.toNatClampNeg d))) / 1000)) S hG 9 rfl (show vp_in h 20 from hh) dX10_noon_77 ((up2_n _ _ _ _ (by decide)).trans (up2_ss ..)) ?_
      refine lv_istore (lv' := [(4, .int ((r 9 (Int32.toNatClampNeg h)) + (((r 9 (Int32.toNatClampNeg h)) * (r 3 (Int32.toNatClampNeg d))) / 1000))), (3, .int ((r 9 (Int32.toNatClampNeg h)) + (((r 9 (Int32.toNatClampNeg h)) * (r 3 (Int32.toNatClampNeg d))) / 1000))), (0, .ref (ad 0)), (1, .int h), (2, .int d)]) hx hb dX10_noon_78 hl (by decide) rfl (fun ls hl => ?_)
      refine lv_iload hx hb dX10_noon_80 (lv_at hl 0 rfl) ?_
      refine lv_aload_n hx hb dX10_noon_82 rfl (lv_at hl 2 rfl) ?_
      refine m_ga S hG 10 rfl (hts (.fieldLink RX10 31 "SwarmLineModel" "hiveRoom" "[I") (by decide +kernel)) dX10_noon_83 ?_
      refine lv_iload_n hx hb dX10_noon_86 rfl (lv_at hl 3 rfl) ?_
      refine m_ld (v := r 10 (Int32.toNatClampNeg h)) S hG 10 rfl (show vp_in h 20 from hh) dX10_noon_87 ((up2_n _ _ _ _ (by decide)).trans ((up2_n _ _ _ _ (by decide)).trans (rfl))) ?_
      refine lv_icmp_le (tgt := 110) hx hb dX10_noon_88 (by decide) (fun c88 => ?_) (fun c88 => ?_)
      ·
        exact m_vret S hr hlocks hG hL dX10_noon_110 (by simp only [nnS, nnC, nnB, nnW, nnM, eq_true c33, eq_false c56, eq_true c88, i03, ↓reduceIte, Bool.false_eq_true]) (by simp only [nnR, nnC, nn1, nn2, nnB, nnW, nnM, eq_true c33, eq_false c56, eq_true c88, i03, ↓reduceIte, Bool.false_eq_true])
      ·
        refine lv_aload_n hx hb dX10_noon_91 rfl (lv_at hl 2 rfl) ?_
        refine m_ga S hG 12 rfl (hts (.fieldLink RX10 37 "SwarmLineModel" "hiveWarm" "[I") (by decide +kernel)) dX10_noon_92 ?_
        refine lv_iload_n hx hb dX10_noon_95 rfl (lv_at hl 3 rfl) ?_
        refine m_ld (v := (r 12 (Int32.toNatClampNeg h)) + 1) S hG 12 rfl (show vp_in h 20 from hh) dX10_noon_96 (up2_ss ..) ?_
        refine lv_iconst (v := 3) hx hb dX10_noon_97 (by decide) ?_
        refine lv_icmp_lt (tgt := 110) hx hb dX10_noon_98 (by decide) (fun c98 => ?_) (fun c98 => ?_)
        ·
          exact m_vret S hr hlocks hG hL dX10_noon_110 (by simp only [nnS, nnC, nnB, nnW, nnM, eq_true c33, eq_false c56, eq_false c88, eq_true c98, i03, ↓reduceIte, Bool.false_eq_true]) (by simp only [nnR, nnC, nn1, nn2, nnB, nnW, nnM, eq_true c33, eq_false c56, eq_false c88, eq_true c98, i03, ↓reduceIte, Bool.false_eq_true])
        ·
          refine lv_aload_n hx hb dX10_noon_101 rfl (lv_at hl 2 rfl) ?_
          refine m_gi (v := s 14) S hG 14 rfl (hts (.fieldLink RX10 186 "SwarmLineModel" "swarms" "I") (by decide +kernel)) dX10_noon_102 rfl ?_
          refine lv_bipush (v := 60) hx hb dX10_noon_105 (by decide) ?_
          refine lv_icmp_ne (tgt := 111) hx hb dX10_noon_107 (by decide) (fun c107 => ?_) (fun c107 => ?_)
          ·
            refine lv_aload_n hx hb dX10_noon_111 rfl (lv_at hl 2 rfl) ?_
            refine m_gi (v := s 14) S hG 14 rfl (hts (.fieldLink RX10 186 "SwarmLineModel" "swarms" "I") (by decide +kernel)) dX10_noon_112 rfl ?_
            refine lv_istore (lv' := [(5, .int (s 14)), (4, .int ((r 9 (Int32.toNatClampNeg h)) + (((r 9 (Int32.toNatClampNeg h)) * (r 3 (Int32.toNatClampNeg d))) / 1000))), (3, .int ((r 9 (Int32.toNatClampNeg h)) + (((r 9 (Int32.toNatClampNeg h)) * (r 3 (Int32.toNatClampNeg d))) / 1000))), (0, .ref (ad 0)), (1, .int h), (2, .int d)]) hx hb dX10_noon_115 hl (by decide) rfl (fun ls hl => ?_)
            refine lv_aload_n hx hb dX10_noon_117 rfl (lv_at hl 3 rfl) ?_
            refine lv_dup hx hb dX10_noon_118 rfl ?_
            refine m_gi (v := s 14) S hG 14 rfl (hts (.fieldLink RX10 186 "SwarmLineModel" "swarms" "I") (by decide +kernel)) dX10_noon_119 rfl ?_
            refine lv_iconst (v := 1) hx hb dX10_noon_122 (by decide) ?_
            refine lv_iadd hx hb dX10_noon_123 ?_
            refine m_pi S hG hL 14 rfl (hts (.fieldLink RX10 186 "SwarmLineModel" "swarms" "I") (by decide +kernel)) dX10_noon_124 (fun H locs hG hL => ?_)
            refine lv_aload_n hx hb dX10_noon_127 rfl (lv_at hl 3 rfl) ?_
            refine m_ga S hG 15 rfl (hts (.fieldLink RX10 43 "SwarmLineModel" "swarmState" "[I") (by decide +kernel)) dX10_noon_128 ?_
            refine lv_iload hx hb dX10_noon_131 (lv_at hl 0 rfl) ?_
            refine lv_iconst (v := 0) hx hb dX10_noon_133 (by decide) ?_
            refine m_st S hG hL 15 rfl (show vp_in (s 14) 60 from tq_ne rfl h0 h1 c107) dX10_noon_134 (fun H locs hG hL => ?_)
            refine lv_aload_n hx hb dX10_noon_135 rfl (lv_at hl 3 rfl) ?_
            refine m_ga S hG 16 rfl (hts (.fieldLink RX10 46 "SwarmLineModel" "swarmHive" "[I") (by decide +kernel)) dX10_noon_136 ?_
            refine lv_iload hx hb dX10_noon_139 (lv_at hl 0 rfl) ?_
            refine lv_iload_n hx hb dX10_noon_141 rfl (lv_at hl 4 rfl) ?_
            refine m_st S hG hL 16 rfl (show vp_in (s 14) 60 from tq_ne rfl h0 h1 c107) dX10_noon_142 (fun H locs hG hL => ?_)
            refine lv_aload_n hx hb dX10_noon_143 rfl (lv_at hl 3 rfl) ?_
            refine m_ga S hG 17 rfl (hts (.fieldLink RX10 49 "SwarmLineModel" "swarmBees" "[I") (by decide +kernel)) dX10_noon_144 ?_
            refine lv_iload hx hb dX10_noon_147 (lv_at hl 0 rfl) ?_
            refine lv_iload hx hb dX10_noon_149 (lv_at hl 1 rfl) ?_
            refine lv_iconst (v := 2) hx hb dX10_noon_151 (by decide) ?_
            refine lv_idiv hx hb dX10_noon_152 (by decide) ?_
            refine m_st S hG hL 17 rfl (show vp_in (s 14) 60 from tq_ne rfl h0 h1 c107) dX10_noon_153 (fun H locs hG hL => ?_)
            refine lv_aload_n hx hb dX10_noon_154 rfl (lv_at hl 3 rfl) ?_
            refine m_ga S hG 18 rfl (hts (.fieldLink RX10 52 "SwarmLineModel" "swarmX" "[I") (by decide +kernel)) dX10_noon_155 ?_
            refine lv_iload hx hb dX10_noon_158 (lv_at hl 0 rfl) ?_
            refine lv_aload_n hx hb dX10_noon_160 rfl (lv_at hl 3 rfl) ?_
            refine m_ga S hG 7 rfl (hts (.fieldLink RX10 22 "SwarmLineModel" "hiveX" "[I") (by decide +kernel)) dX10_noon_161 ?_
            refine lv_iload_n hx hb dX10_noon_164 rfl (lv_at hl 4 rfl) ?_
            refine m_ld (v := r 7 (Int32.toNatClampNeg h)) S hG 7 rfl (show vp_in h 20 from hh) dX10_noon_165 ((up2_n _ _ _ _ (by decide)).trans ((up2_n _ _ _ _ (by decide)).trans ((up2_n _ _ _ _ (by decide)).trans ((up2_n _ _ _ _ (by decide)).trans ((up2_n _ _ _ _ (by decide)).trans (rfl)))))) ?_
            refine lv_iload hx hb dX10_noon_166 (lv_at hl 1 rfl) ?_
            refine lv_sipush (v := 1000) hx hb dX10_noon_168 (by decide) ?_
            refine lv_idiv hx hb dX10_noon_171 (by decide) ?_
            refine lv_iload_n hx hb dX10_noon_172 rfl (lv_at hl 5 rfl) ?_
            refine lv_iadd hx hb dX10_noon_173 ?_
            refine lv_bipush (v := 7) hx hb dX10_noon_174 (by decide) ?_
            refine lv_irem hx hb dX10_noon_176 (by decide) ?_
            refine lv_iadd hx hb dX10_noon_177 ?_
            refine lv_iconst (v := 3) hx hb dX10_noon_178 (by decide) ?_
            refine lv_isub hx hb dX10_noon_179 ?_
            refine m_callP (n := 1) (As := [.int (((r 7 (Int32.toNatClampNeg h)) + (((((r 9 (Int32.toNatClampNeg h)) + (((r 9 (Int32.toNatClampNeg h)) * (r 3 (Int32.toNatClampNeg d))) / 1000)) / 1000) + d) - ((((r 9 (Int32.toNatClampNeg h)) + (((r 9 (Int32.toNatClampNeg h)) * (r 3 (Int32.toNatClampNeg d))) / 1000)) / 1000) + d) / 7 * 7)) - 3)]) (rest := [.int (s 14), .ref (ad 19)]) (st1 := .int (fHe (((r 7 (Int32.toNatClampNeg h)) + (((((r 9 (Int32.toNatClampNeg h)) + (((r 9 (Int32.toNatClampNeg h)) * (r 3 (Int32.toNatClampNeg d))) / 1000)) / 1000) + d) - ((((r 9 (Int32.toNatClampNeg h)) + (((r 9 (Int32.toNatClampNeg h)) * (r 3 (Int32.toNatClampNeg d))) / 1000)) / 1000) + d) / 7 * 7)) - 3)) :: [.int (s 14), .ref (ad 19)]) S.1 (c_X10_held (((r 7 (Int32.toNatClampNeg h)) + (((((r 9 (Int32.toNatClampNeg h)) + (((r 9 (Int32.toNatClampNeg h)) * (r 3 (Int32.toNatClampNeg d))) / 1000)) / 1000) + d) - ((((r 9 (Int32.toNatClampNeg h)) + (((r 9 (Int32.toNatClampNeg h)) * (r 3 (Int32.toNatClampNeg d))) / 1000)) / 1000) + d) / 7 * 7)) - 3)) gX10_noon_X10_held rfl (by decide +kernel) ⟨Nat.le_of_ble_eq_true rfl, Nat.le_of_ble_eq_true rfl⟩ rfl hl.1 rfl (Nat.le_of_ble_eq_true rfl) dX10_noon_180 ⟨Nat.zero_le _, Nat.zero_le _⟩ rfl ?_
            refine m_st S hG hL 18 rfl (show vp_in (s 14) 60 from tq_ne rfl h0 h1 c107) dX10_noon_183 (fun H locs hG hL => ?_)
            refine lv_aload_n hx hb dX10_noon_184 rfl (lv_at hl 3 rfl) ?_
            refine m_ga S hG 19 rfl (hts (.fieldLink RX10 55 "SwarmLineModel" "swarmY" "[I") (by decide +kernel)) dX10_noon_185 ?_
            refine lv_iload hx hb dX10_noon_188 (lv_at hl 0 rfl) ?_
            refine lv_aload_n hx hb dX10_noon_190 rfl (lv_at hl 3 rfl) ?_
            refine m_ga S hG 8 rfl (hts (.fieldLink RX10 25 "SwarmLineModel" "hiveY" "[I") (by decide +kernel)) dX10_noon_191 ?_
            refine lv_iload_n hx hb dX10_noon_194 rfl (lv_at hl 4 rfl) ?_
            refine m_ld (v := r 8 (Int32.toNatClampNeg h)) S hG 8 rfl (show vp_in h 20 from hh) dX10_noon_195 ((up2_n _ _ _ _ (by decide)).trans ((up2_n _ _ _ _ (by decide)).trans ((up2_n _ _ _ _ (by decide)).trans ((up2_n _ _ _ _ (by decide)).trans ((up2_n _ _ _ _ (by decide)).trans ((up2_n _ _ _ _ (by decide)).trans (rfl))))))) ?_
            refine lv_iload hx hb dX10_noon_196 (lv_at hl 1 rfl) ?_
            refine lv_bipush (v := 100) hx hb dX10_noon_198 (by decide) ?_
            refine lv_idiv hx hb dX10_noon_200 (by decide) ?_
            refine lv_iload_n hx hb dX10_noon_201 rfl (lv_at hl 5 rfl) ?_
            refine lv_iadd hx hb dX10_noon_202 ?_
            refine lv_bipush (v := 7) hx hb dX10_noon_203 (by decide) ?_
            refine lv_irem hx hb dX10_noon_205 (by decide) ?_
            refine lv_iadd hx hb dX10_noon_206 ?_
            refine lv_iconst (v := 3) hx hb dX10_noon_207 (by decide) ?_
            refine lv_isub hx hb dX10_noon_208 ?_
            refine m_callP (n := 1) (As := [.int (((r 8 (Int32.toNatClampNeg h)) + (((((r 9 (Int32.toNatClampNeg h)) + (((r 9 (Int32.toNatClampNeg h)) * (r 3 (Int32.toNatClampNeg d))) / 1000)) / 100) + d) - ((((r 9 (Int32.toNatClampNeg h)) + (((r 9 (Int32.toNatClampNeg h)) * (r 3 (Int32.toNatClampNeg d))) / 1000)) / 100) + d) / 7 * 7)) - 3)]) (rest := [.int (s 14), .ref (ad 20)]) (st1 := .int (fHe (((r 8 (Int32.toNatClampNeg h)) + (((((r 9 (Int32.toNatClampNeg h)) + (((r 9 (Int32.toNatClampNeg h)) * (r 3 (Int32.toNatClampNeg d))) / 1000)) / 100) + d) - ((((r 9 (Int32.toNatClampNeg h)) + (((r 9 (Int32.toNatClampNeg h)) * (r 3 (Int32.toNatClampNeg d))) / 1000)) / 100) + d) / 7 * 7)) - 3)) :: [.int (s 14), .ref (ad 20)]) S.1 (c_X10_held (((r 8 (Int32.toNatClampNeg h)) + (((((r 9 (Int32.toNatClampNeg h)) + (((r 9 (Int32.toNatClampNeg h)) * (r 3 (Int32.toNatClampNeg d))) / 1000)) / 100) + d) - ((((r 9 (Int32.toNatClampNeg h)) + (((r 9 (Int32.toNatClampNeg h)) * (r 3 (Int32.toNatClampNeg d))) / 1000)) / 100) + d) / 7 * 7)) - 3)) gX10_noon_X10_held rfl (by decide +kernel) ⟨Nat.le_of_ble_eq_true rfl, Nat.le_of_ble_eq_true rfl⟩ rfl hl.1 rfl (Nat.le_of_ble_eq_true rfl) dX10_noon_209 ⟨Nat.zero_le _, Nat.zero_le _⟩ rfl ?_
            refine m_st S hG hL 19 rfl (show vp_in (s 14) 60 from tq_ne rfl h0 h1 c107) dX10_noon_212 (fun H locs hG hL => ?_)
            refine lv_aload_n hx hb dX10_noon_213 rfl (lv_at hl 3 rfl) ?_
            refine m_ga S hG 20 rfl (hts (.fieldLink RX10 58 "SwarmLineModel" "swarmHeight" "[I") (by decide +kernel)) dX10_noon_214 ?_
            refine lv_iload hx hb dX10_noon_217 (lv_at hl 0 rfl) ?_
            refine lv_iload hx hb dX10_noon_219 (lv_at hl 1 rfl) ?_
            refine lv_bipush (v := 10) hx hb dX10_noon_221 (by decide) ?_
            refine lv_idiv hx hb dX10_noon_223 (by decide) ?_
            refine lv_bipush (v := 9) hx hb dX10_noon_224 (by decide) ?_
            refine lv_irem hx hb dX10_noon_226 (by decide) ?_
            refine lv_iconst (v := 1) hx hb dX10_noon_227 (by decide) ?_
            refine lv_iadd hx hb dX10_noon_228 ?_
            refine m_st S hG hL 20 rfl (show vp_in (s 14) 60 from tq_ne rfl h0 h1 c107) dX10_noon_229 (fun H locs hG hL => ?_)
            refine lv_aload_n hx hb dX10_noon_230 rfl (lv_at hl 3 rfl) ?_
            refine m_ga S hG 21 rfl (hts (.fieldLink RX10 61 "SwarmLineModel" "swarmLeft" "[I") (by decide +kernel)) dX10_noon_231 ?_
            refine lv_iload hx hb dX10_noon_234 (lv_at hl 0 rfl) ?_
            refine lv_aload_n hx hb dX10_noon_236 rfl (lv_at hl 3 rfl) ?_
            refine m_gi (v := s 1) S hG 1 rfl (hts (.fieldLink RX10 206 "SwarmLineModel" "now" "I") (by decide +kernel)) dX10_noon_237 rfl ?_
            refine m_st S hG hL 21 rfl (show vp_in (s 14) 60 from tq_ne rfl h0 h1 c107) dX10_noon_240 (fun H locs hG hL => ?_)
            refine lv_aload_n hx hb dX10_noon_241 rfl (lv_at hl 3 rfl) ?_
            refine m_ga S hG 22 rfl (hts (.fieldLink RX10 64 "SwarmLineModel" "swarmPatience" "[I") (by decide +kernel)) dX10_noon_242 ?_
            refine lv_iload hx hb dX10_noon_245 (lv_at hl 0 rfl) ?_
            refine lv_bipush (v := 60) hx hb dX10_noon_247 (by decide) ?_
            refine m_st S hG hL 22 rfl (show vp_in (s 14) 60 from tq_ne rfl h0 h1 c107) dX10_noon_249 (fun H locs hG hL => ?_)
            refine lv_aload_n hx hb dX10_noon_250 rfl (lv_at hl 3 rfl) ?_
            refine m_ga S hG 23 rfl (hts (.fieldLink RX10 67 "SwarmLineModel" "swarmKeeper" "[I") (by decide +kernel)) dX10_noon_251 ?_
            refine lv_iload hx hb dX10_noon_254 (lv_at hl 0 rfl) ?_
            refine lv_iconst (v := (-1)) hx hb dX10_noon_256 (by decide) ?_
            refine m_st S hG hL 23 rfl (show vp_in (s 14) 60 from tq_ne rfl h0 h1 c107) dX10_noon_257 (fun H locs hG hL => ?_)
            refine lv_aload_n hx hb dX10_noon_258 rfl (lv_at hl 3 rfl) ?_
            refine m_ga S hG 24 rfl (hts (.fieldLink RX10 70 "SwarmLineModel" "swarmHour" "[I") (by decide +kernel)) dX10_noon_259 ?_
            refine lv_iload hx hb dX10_noon_262 (lv_at hl 0 rfl) ?_
            refine lv_iconst (v := (-1)) hx hb dX10_noon_264 (by decide) ?_
            refine m_st S hG hL 24 rfl (show vp_in (s 14) 60 from tq_ne rfl h0 h1 c107) dX10_noon_265 (fun H locs hG hL => ?_)
            refine lv_aload_n hx hb dX10_noon_266 rfl (lv_at hl 3 rfl) ?_
            refine m_ga S hG 25 rfl (hts (.fieldLink RX10 73 "SwarmLineModel" "swarmCase" "[I") (by decide +kernel)) dX10_noon_267 ?_
            refine lv_iload hx hb dX10_noon_270 (lv_at hl 0 rfl) ?_
            refine lv_iconst (v := (-1)) hx hb dX10_noon_272 (by decide) ?_
            refine m_st S hG hL 25 rfl (show vp_in (s 14) 60 from tq_ne rfl h0 h1 c107) dX10_noon_273 (fun H locs hG hL => ?_)
            refine lv_aload_n hx hb dX10_noon_274 rfl (lv_at hl 3 rfl) ?_
            refine m_ga S hG 9 rfl (hts (.fieldLink RX10 28 "SwarmLineModel" "hiveBees" "[I") (by decide +kernel)) dX10_noon_275 ?_
            refine lv_iload_n hx hb dX10_noon_278 rfl (lv_at hl 4 rfl) ?_
            refine lv_iload hx hb dX10_noon_279 (lv_at hl 1 rfl) ?_
            refine lv_iload hx hb dX10_noon_281 (lv_at hl 1 rfl) ?_
            refine lv_iconst (v := 2) hx hb dX10_noon_283 (by decide) ?_
            refine lv_idiv hx hb dX10_noon_284 (by decide) ?_
            refine lv_isub hx hb dX10_noon_285 ?_
            refine m_st S hG hL 9 rfl (show vp_in h 20 from hh) dX10_noon_286 (fun H locs hG hL => ?_)
            refine lv_aload_n hx hb dX10_noon_287 rfl (lv_at hl 3 rfl) ?_
            refine m_ga S hG 12 rfl (hts (.fieldLink RX10 37 "SwarmLineModel" "hiveWarm" "[I") (by decide +kernel)) dX10_noon_288 ?_
            refine lv_iload_n hx hb dX10_noon_291 rfl (lv_at hl 4 rfl) ?_
            refine lv_iconst (v := 0) hx hb dX10_noon_292 (by decide) ?_
            refine m_st S hG hL 12 rfl (show vp_in h 20 from hh) dX10_noon_293 (fun H locs hG hL => ?_)
            refine lv_aload_n hx hb dX10_noon_294 rfl (lv_at hl 3 rfl) ?_
            refine m_ga S hG 13 rfl (hts (.fieldLink RX10 40 "SwarmLineModel" "hiveLast" "[I") (by decide +kernel)) dX10_noon_295 ?_
            refine lv_iload_n hx hb dX10_noon_298 rfl (lv_at hl 4 rfl) ?_
            refine lv_aload_n hx hb dX10_noon_299 rfl (lv_at hl 3 rfl) ?_
            refine m_gi (v := s 1) S hG 1 rfl (hts (.fieldLink RX10 206 "SwarmLineModel" "now" "I") (by decide +kernel)) dX10_noon_300 rfl ?_
            refine m_st S hG hL 13 rfl (show vp_in h 20 from hh) dX10_noon_303 (fun H locs hG hL => ?_)
            exact m_vret S hr hlocks hG hL dX10_noon_304 (by simp only [nnS, nnC, nnB, nnW, nnM, eq_true c33, eq_false c56, eq_false c88, eq_false c98, eq_false c107, i03, ↓reduceIte, Bool.false_eq_true]) (by simp only [nnR, nnC, nn1, nn2, nnB, nnW, nnM, eq_true c33, eq_false c56, eq_false c88, eq_false c98, eq_false c107, i03, ↓reduceIte, Bool.false_eq_true])
          ·
            exact m_vret S hr hlocks hG hL dX10_noon_110 (by simp only [nnS, nnC, nnB, nnW, nnM, eq_true c33, eq_false c56, eq_false c88, eq_false c98, eq_true c107, i03, ↓reduceIte, Bool.false_eq_true]) (by simp only [nnR, nnC, nn1, nn2, nnB, nnW, nnM, eq_true c33, eq_false c56, eq_false c88, eq_false c98, eq_true c107, i03, ↓reduceIte, Bool.false_eq_true])
  ·
    refine lv_ldc (v := 100000) hx hb hown (hts (.constant RX10 209 100000) (by decide +kernel)) dX10_noon_36 ?_
    refine lv_goto (tgt := 42) hx hb dX10_noon_38 (by decide) ?_
    refine m_st S hG hL 9 rfl (show vp_in h 20 from hh) dX10_noon_42 (fun H locs hG hL => ?_)
    refine lv_aload_n hx hb dX10_noon_43 rfl (lv_at hl 1 rfl) ?_
    refine m_ga S hG 12 rfl (hts (.fieldLink RX10 37 "SwarmLineModel" "hiveWarm" "[I") (by decide +kernel)) dX10_noon_44 ?_
    refine lv_iload_n hx hb dX10_noon_47 rfl (lv_at hl 2 rfl) ?_
    refine lv_aload_n hx hb dX10_noon_48 rfl (lv_at hl 1 rfl) ?_
    refine m_ga S hG 2 rfl (hts (.fieldLink RX10 7 "SwarmLineModel" "warmth" "[I") (by decide +kernel)) dX10_noon_49 ?_
    refine lv_iload_n hx hb dX10_noon_52 rfl (lv_at hl 3 rfl) ?_
    refine m_ld (v := r 2 (Int32.toNatClampNeg d)) S hG 2 rfl (show vp_in d 31 from hd) dX10_noon_53 ((up2_n _ _ _ _ (by decide)).trans (rfl)) ?_
    refine lv_bipush (v := 18) hx hb dX10_noon_54 (by decide) ?_
    refine lv_icmp_lt (tgt := 70) hx hb dX10_noon_56 (by decide) (fun c56 => ?_) (fun c56 => ?_)
    ·
      refine lv_iconst (v := 0) hx hb dX10_noon_70 (by decide) ?_
      refine m_st S hG hL 12 rfl (show vp_in h 20 from hh) dX10_noon_71 (fun H locs hG hL => ?_)
      refine lv_aload_n hx hb dX10_noon_72 rfl (lv_at hl 1 rfl) ?_
      refine m_ga S hG 9 rfl (hts (.fieldLink RX10 28 "SwarmLineModel" "hiveBees" "[I") (by decide +kernel)) dX10_noon_73 ?_
      refine lv_iload_n hx hb dX10_noon_76 rfl (lv_at hl 2 rfl) ?_
      refine m_ld (v := 100000) S hG 9 rfl (show vp_in h 20 from hh) dX10_noon_77 ((up2_n _ _ _ _ (by decide)).trans (up2_ss ..)) ?_
      refine lv_istore (lv' := [(4, .int 100000), (3, .int ((r 9 (Int32.toNatClampNeg h)) + (((r 9 (Int32.toNatClampNeg h)) * (r 3 (Int32.toNatClampNeg d))) / 1000))), (0, .ref (ad 0)), (1, .int h), (2, .int d)]) hx hb dX10_noon_78 hl (by decide) rfl (fun ls hl => ?_)
      refine lv_iload hx hb dX10_noon_80 (lv_at hl 0 rfl) ?_
      refine lv_aload_n hx hb dX10_noon_82 rfl (lv_at hl 2 rfl) ?_
      refine m_ga S hG 10 rfl (hts (.fieldLink RX10 31 "SwarmLineModel" "hiveRoom" "[I") (by decide +kernel)) dX10_noon_83 ?_
      refine lv_iload_n hx hb dX10_noon_86 rfl (lv_at hl 3 rfl) ?_
      refine m_ld (v := r 10 (Int32.toNatClampNeg h)) S hG 10 rfl (show vp_in h 20 from hh) dX10_noon_87 ((up2_n _ _ _ _ (by decide)).trans ((up2_n _ _ _ _ (by decide)).trans (rfl))) ?_
      refine lv_icmp_le (tgt := 110) hx hb dX10_noon_88 (by decide) (fun c88 => ?_) (fun c88 => ?_)
      ·
        exact m_vret S hr hlocks hG hL dX10_noon_110 (by simp only [nnS, nnC, nnB, nnW, nnM, eq_false c33, eq_true c56, eq_true c88, i03, ↓reduceIte, Bool.false_eq_true]) (by simp only [nnR, nnC, nn1, nn2, nnB, nnW, nnM, eq_false c33, eq_true c56, eq_true c88, i03, ↓reduceIte, Bool.false_eq_true])
      ·
        refine lv_aload_n hx hb dX10_noon_91 rfl (lv_at hl 2 rfl) ?_
        refine m_ga S hG 12 rfl (hts (.fieldLink RX10 37 "SwarmLineModel" "hiveWarm" "[I") (by decide +kernel)) dX10_noon_92 ?_
        refine lv_iload_n hx hb dX10_noon_95 rfl (lv_at hl 3 rfl) ?_
        refine m_ld (v := 0) S hG 12 rfl (show vp_in h 20 from hh) dX10_noon_96 (up2_ss ..) ?_
        refine lv_iconst (v := 3) hx hb dX10_noon_97 (by decide) ?_
        refine lv_icmp_lt (tgt := 110) hx hb dX10_noon_98 (by decide) (fun _ => ?_) (fun c => absurd c (by decide))
        exact m_vret S hr hlocks hG hL dX10_noon_110 (by simp only [nnS, nnC, nnB, nnW, nnM, eq_false c33, eq_true c56, eq_false c88, i03, ↓reduceIte, Bool.false_eq_true]) (by simp only [nnR, nnC, nn1, nn2, nnB, nnW, nnM, eq_false c33, eq_true c56, eq_false c88, i03, ↓reduceIte, Bool.false_eq_true])
    ·
      refine lv_aload_n hx hb dX10_noon_59 rfl (lv_at hl 1 rfl) ?_
      refine m_ga S hG 12 rfl (hts (.fieldLink RX10 37 "SwarmLineModel" "hiveWarm" "[I") (by decide +kernel)) dX10_noon_60 ?_
      refine lv_iload_n hx hb dX10_noon_63 rfl (lv_at hl 2 rfl) ?_
      refine m_ld (v := r 12 (Int32.toNatClampNeg h)) S hG 12 rfl (show vp_in h 20 from hh) dX10_noon_64 ((up2_n _ _ _ _ (by decide)).trans (rfl)) ?_
      refine lv_iconst (v := 1) hx hb dX10_noon_65 (by decide) ?_
      refine lv_iadd hx hb dX10_noon_66 ?_
      refine lv_goto (tgt := 71) hx hb dX10_noon_67 (by decide) ?_
      refine m_st S hG hL 12 rfl (show vp_in h 20 from hh) dX10_noon_71 (fun H locs hG hL => ?_)
      refine lv_aload_n hx hb dX10_noon_72 rfl (lv_at hl 1 rfl) ?_
      refine m_ga S hG 9 rfl (hts (.fieldLink RX10 28 "SwarmLineModel" "hiveBees" "[I") (by decide +kernel)) dX10_noon_73 ?_
      refine lv_iload_n hx hb dX10_noon_76 rfl (lv_at hl 2 rfl) ?_
      refine m_ld (v := 100000) S hG 9 rfl (show vp_in h 20 from hh) dX10_noon_77 ((up2_n _ _ _ _ (by decide)).trans (up2_ss ..)) ?_
      refine lv_istore (lv' := [(4, .int 100000), (3, .int ((r 9 (Int32.toNatClampNeg h)) + (((r 9 (Int32.toNatClampNeg h)) * (r 3 (Int32.toNatClampNeg d))) / 1000))), (0, .ref (ad 0)), (1, .int h), (2, .int d)]) hx hb dX10_noon_78 hl (by decide) rfl (fun ls hl => ?_)
      refine lv_iload hx hb dX10_noon_80 (lv_at hl 0 rfl) ?_
      refine lv_aload_n hx hb dX10_noon_82 rfl (lv_at hl 2 rfl) ?_
      refine m_ga S hG 10 rfl (hts (.fieldLink RX10 31 "SwarmLineModel" "hiveRoom" "[I") (by decide +kernel)) dX10_noon_83 ?_
      refine lv_iload_n hx hb dX10_noon_86 rfl (lv_at hl 3 rfl) ?_
      refine m_ld (v := r 10 (Int32.toNatClampNeg h)) S hG 10 rfl (show vp_in h 20 from hh) dX10_noon_87 ((up2_n _ _ _ _ (by decide)).trans ((up2_n _ _ _ _ (by decide)).trans (rfl))) ?_
      refine lv_icmp_le (tgt := 110) hx hb dX10_noon_88 (by decide) (fun c88 => ?_) (fun c88 => ?_)
      ·
        exact m_vret S hr hlocks hG hL dX10_noon_110 (by simp only [nnS, nnC, nnB, nnW, nnM, eq_false c33, eq_false c56, eq_true c88, i03, ↓reduceIte, Bool.false_eq_true]) (by simp only [nnR, nnC, nn1, nn2, nnB, nnW, nnM, eq_false c33, eq_false c56, eq_true c88, i03, ↓reduceIte, Bool.false_eq_true])
      ·
        refine lv_aload_n hx hb dX10_noon_91 rfl (lv_at hl 2 rfl) ?_
        refine m_ga S hG 12 rfl (hts (.fieldLink RX10 37 "SwarmLineModel" "hiveWarm" "[I") (by decide +kernel)) dX10_noon_92 ?_
        refine lv_iload_n hx hb dX10_noon_95 rfl (lv_at hl 3 rfl) ?_
        refine m_ld (v := (r 12 (Int32.toNatClampNeg h)) + 1) S hG 12 rfl (show vp_in h 20 from hh) dX10_noon_96 (up2_ss ..) ?_
        refine lv_iconst (v := 3) hx hb dX10_noon_97 (by decide) ?_
        refine lv_icmp_lt (tgt := 110) hx hb dX10_noon_98 (by decide) (fun c98 => ?_) (fun c98 => ?_)
        ·
          exact m_vret S hr hlocks hG hL dX10_noon_110 (by simp only [nnS, nnC, nnB, nnW, nnM, eq_false c33, eq_false c56, eq_false c88, eq_true c98, i03, ↓reduceIte, Bool.false_eq_true]) (by simp only [nnR, nnC, nn1, nn2, nnB, nnW, nnM, eq_false c33, eq_false c56, eq_false c88, eq_true c98, i03, ↓reduceIte, Bool.false_eq_true])
        ·
          refine lv_aload_n hx hb dX10_noon_101 rfl (lv_at hl 2 rfl) ?_
          refine m_gi (v := s 14) S hG 14 rfl (hts (.fieldLink RX10 186 "SwarmLineModel" "swarms" "I") (by decide +kernel)) dX10_noon_102 rfl ?_
          refine lv_bipush (v := 60) hx hb dX10_noon_105 (by decide) ?_
          refine lv_icmp_ne (tgt := 111) hx hb dX10_noon_107 (by decide) (fun c107 => ?_) (fun c107 => ?_)
          ·
            refine lv_aload_n hx hb dX10_noon_111 rfl (lv_at hl 2 rfl) ?_
            refine m_gi (v := s 14) S hG 14 rfl (hts (.fieldLink RX10 186 "SwarmLineModel" "swarms" "I") (by decide +kernel)) dX10_noon_112 rfl ?_
            refine lv_istore (lv' := [(5, .int (s 14)), (4, .int 100000), (3, .int ((r 9 (Int32.toNatClampNeg h)) + (((r 9 (Int32.toNatClampNeg h)) * (r 3 (Int32.toNatClampNeg d))) / 1000))), (0, .ref (ad 0)), (1, .int h), (2, .int d)]) hx hb dX10_noon_115 hl (by decide) rfl (fun ls hl => ?_)
            refine lv_aload_n hx hb dX10_noon_117 rfl (lv_at hl 3 rfl) ?_
            refine lv_dup hx hb dX10_noon_118 rfl ?_
            refine m_gi (v := s 14) S hG 14 rfl (hts (.fieldLink RX10 186 "SwarmLineModel" "swarms" "I") (by decide +kernel)) dX10_noon_119 rfl ?_
            refine lv_iconst (v := 1) hx hb dX10_noon_122 (by decide) ?_
            refine lv_iadd hx hb dX10_noon_123 ?_
            refine m_pi S hG hL 14 rfl (hts (.fieldLink RX10 186 "SwarmLineModel" "swarms" "I") (by decide +kernel)) dX10_noon_124 (fun H locs hG hL => ?_)
            refine lv_aload_n hx hb dX10_noon_127 rfl (lv_at hl 3 rfl) ?_
            refine m_ga S hG 15 rfl (hts (.fieldLink RX10 43 "SwarmLineModel" "swarmState" "[I") (by decide +kernel)) dX10_noon_128 ?_
            refine lv_iload hx hb dX10_noon_131 (lv_at hl 0 rfl) ?_
            refine lv_iconst (v := 0) hx hb dX10_noon_133 (by decide) ?_
            refine m_st S hG hL 15 rfl (show vp_in (s 14) 60 from tq_ne rfl h0 h1 c107) dX10_noon_134 (fun H locs hG hL => ?_)
            refine lv_aload_n hx hb dX10_noon_135 rfl (lv_at hl 3 rfl) ?_
            refine m_ga S hG 16 rfl (hts (.fieldLink RX10 46 "SwarmLineModel" "swarmHive" "[I") (by decide +kernel)) dX10_noon_136 ?_
            refine lv_iload hx hb dX10_noon_139 (lv_at hl 0 rfl) ?_
            refine lv_iload_n hx hb dX10_noon_141 rfl (lv_at hl 4 rfl) ?_
            refine m_st S hG hL 16 rfl (show vp_in (s 14) 60 from tq_ne rfl h0 h1 c107) dX10_noon_142 (fun H locs hG hL => ?_)
            refine lv_aload_n hx hb dX10_noon_143 rfl (lv_at hl 3 rfl) ?_
            refine m_ga S hG 17 rfl (hts (.fieldLink RX10 49 "SwarmLineModel" "swarmBees" "[I") (by decide +kernel)) dX10_noon_144 ?_
            refine lv_iload hx hb dX10_noon_147 (lv_at hl 0 rfl) ?_
            refine lv_iload hx hb dX10_noon_149 (lv_at hl 1 rfl) ?_
            refine lv_iconst (v := 2) hx hb dX10_noon_151 (by decide) ?_
            refine lv_idiv hx hb dX10_noon_152 (by decide) ?_
            refine m_st S hG hL 17 rfl (show vp_in (s 14) 60 from tq_ne rfl h0 h1 c107) dX10_noon_153 (fun H locs hG hL => ?_)
            refine lv_aload_n hx hb dX10_noon_154 rfl (lv_at hl 3 rfl) ?_
            refine m_ga S hG 18 rfl (hts (.fieldLink RX10 52 "SwarmLineModel" "swarmX" "[I") (by decide +kernel)) dX10_noon_155 ?_
            refine lv_iload hx hb dX10_noon_158 (lv_at hl 0 rfl) ?_
            refine lv_aload_n hx hb dX10_noon_160 rfl (lv_at hl 3 rfl) ?_
            refine m_ga S hG 7 rfl (hts (.fieldLink RX10 22 "SwarmLineModel" "hiveX" "[I") (by decide +kernel)) dX10_noon_161 ?_
            refine lv_iload_n hx hb dX10_noon_164 rfl (lv_at hl 4 rfl) ?_
            refine m_ld (v := r 7 (Int32.toNatClampNeg h)) S hG 7 rfl (show vp_in h 20 from hh) dX10_noon_165 ((up2_n _ _ _ _ (by decide)).trans ((up2_n _ _ _ _ (by decide)).trans ((up2_n _ _ _ _ (by decide)).trans ((up2_n _ _ _ _ (by decide)).trans ((up2_n _ _ _ _ (by decide)).trans (rfl)))))) ?_
            refine lv_iload hx hb dX10_noon_166 (lv_at hl 1 rfl) ?_
            refine lv_sipush (v := 1000) hx hb dX10_noon_168 (by decide) ?_
            refine lv_idiv hx hb dX10_noon_171 (by decide) ?_
            refine lv_iload_n hx hb dX10_noon_172 rfl (lv_at hl 5 rfl) ?_
            refine lv_iadd hx hb dX10_noon_173 ?_
            refine lv_bipush (v := 7) hx hb dX10_noon_174 (by decide) ?_
            refine lv_irem hx hb dX10_noon_176 (by decide) ?_
            refine lv_iadd hx hb dX10_noon_177 ?_
            refine lv_iconst (v := 3) hx hb dX10_noon_178 (by decide) ?_
            refine lv_isub hx hb dX10_noon_179 ?_
            refine m_callP (n := 1) (As := [.int (((r 7 (Int32.toNatClampNeg h)) + (((100000 / 1000) + d) - ((100000 / 1000) + d) / 7 * 7)) - 3)]) (rest := [.int (s 14), .ref (ad 19)]) (st1 := .int (fHe (((r 7 (Int32.toNatClampNeg h)) + (((100000 / 1000) + d) - ((100000 / 1000) + d) / 7 * 7)) - 3)) :: [.int (s 14), .ref (ad 19)]) S.1 (c_X10_held (((r 7 (Int32.toNatClampNeg h)) + (((100000 / 1000) + d) - ((100000 / 1000) + d) / 7 * 7)) - 3)) gX10_noon_X10_held rfl (by decide +kernel) ⟨Nat.le_of_ble_eq_true rfl, Nat.le_of_ble_eq_true rfl⟩ rfl hl.1 rfl (Nat.le_of_ble_eq_true rfl) dX10_noon_180 ⟨Nat.zero_le _, Nat.zero_le _⟩ rfl ?_
            refine m_st S hG hL 18 rfl (show vp_in (s 14) 60 from tq_ne rfl h0 h1 c107) dX10_noon_183 (fun H locs hG hL => ?_)
            refine lv_aload_n hx hb dX10_noon_184 rfl (lv_at hl 3 rfl) ?_
            refine m_ga S hG 19 rfl (hts (.fieldLink RX10 55 "SwarmLineModel" "swarmY" "[I") (by decide +kernel)) dX10_noon_185 ?_
            refine lv_iload hx hb dX10_noon_188 (lv_at hl 0 rfl) ?_
            refine lv_aload_n hx hb dX10_noon_190 rfl (lv_at hl 3 rfl) ?_
            refine m_ga S hG 8 rfl (hts (.fieldLink RX10 25 "SwarmLineModel" "hiveY" "[I") (by decide +kernel)) dX10_noon_191 ?_
            refine lv_iload_n hx hb dX10_noon_194 rfl (lv_at hl 4 rfl) ?_
            refine m_ld (v := r 8 (Int32.toNatClampNeg h)) S hG 8 rfl (show vp_in h 20 from hh) dX10_noon_195 ((up2_n _ _ _ _ (by decide)).trans ((up2_n _ _ _ _ (by decide)).trans ((up2_n _ _ _ _ (by decide)).trans ((up2_n _ _ _ _ (by decide)).trans ((up2_n _ _ _ _ (by decide)).trans ((up2_n _ _ _ _ (by decide)).trans (rfl))))))) ?_
            refine lv_iload hx hb dX10_noon_196 (lv_at hl 1 rfl) ?_
            refine lv_bipush (v := 100) hx hb dX10_noon_198 (by decide) ?_
            refine lv_idiv hx hb dX10_noon_200 (by decide) ?_
            refine lv_iload_n hx hb dX10_noon_201 rfl (lv_at hl 5 rfl) ?_
            refine lv_iadd hx hb dX10_noon_202 ?_
            refine lv_bipush (v := 7) hx hb dX10_noon_203 (by decide) ?_
            refine lv_irem hx hb dX10_noon_205 (by decide) ?_
            refine lv_iadd hx hb dX10_noon_206 ?_
            refine lv_iconst (v := 3) hx hb dX10_noon_207 (by decide) ?_
            refine lv_isub hx hb dX10_noon_208 ?_
            refine m_callP (n := 1) (As := [.int (((r 8 (Int32.toNatClampNeg h)) + (((100000 / 100) + d) - ((100000 / 100) + d) / 7 * 7)) - 3)]) (rest := [.int (s 14), .ref (ad 20)]) (st1 := .int (fHe (((r 8 (Int32.toNatClampNeg h)) + (((100000 / 100) + d) - ((100000 / 100) + d) / 7 * 7)) - 3)) :: [.int (s 14), .ref (ad 20)]) S.1 (c_X10_held (((r 8 (Int32.toNatClampNeg h)) + (((100000 / 100) + d) - ((100000 / 100) + d) / 7 * 7)) - 3)) gX10_noon_X10_held rfl (by decide +kernel) ⟨Nat.le_of_ble_eq_true rfl, Nat.le_of_ble_eq_true rfl⟩ rfl hl.1 rfl (Nat.le_of_ble_eq_true rfl) dX10_noon_209 ⟨Nat.zero_le _, Nat.zero_le _⟩ rfl ?_
            refine m_st S hG hL 19 rfl (show vp_in (s 14) 60 from tq_ne rfl h0 h1 c107) dX10_noon_212 (fun H locs hG hL => ?_)
            refine lv_aload_n hx hb dX10_noon_213 rfl (lv_at hl 3 rfl) ?_
            refine m_ga S hG 20 rfl (hts (.fieldLink RX10 58 "SwarmLineModel" "swarmHeight" "[I") (by decide +kernel)) dX10_noon_214 ?_
            refine lv_iload hx hb dX10_noon_217 (lv_at hl 0 rfl) ?_
            refine lv_iload hx hb dX10_noon_219 (lv_at hl 1 rfl) ?_
            refine lv_bipush (v := 10) hx hb dX10_noon_221 (by decide) ?_
            refine lv_idiv hx hb dX10_noon_223 (by decide) ?_
            refine lv_bipush (v := 9) hx hb dX10_noon_224 (by decide) ?_
            refine lv_irem hx hb dX10_noon_226 (by decide) ?_
            refine lv_iconst (v := 1) hx hb dX10_noon_227 (by decide) ?_
            refine lv_iadd hx hb dX10_noon_228 ?_
            refine m_st S hG hL 20 rfl (show vp_in (s 14) 60 from tq_ne rfl h0 h1 c107) dX10_noon_229 (fun H locs hG hL => ?_)
            refine lv_aload_n hx hb dX10_noon_230 rfl (lv_at hl 3 rfl) ?_
            refine m_ga S hG 21 rfl (hts (.fieldLink RX10 61 "SwarmLineModel" "swarmLeft" "[I") (by decide +kernel)) dX10_noon_231 ?_
            refine lv_iload hx hb dX10_noon_234 (lv_at hl 0 rfl) ?_
            refine lv_aload_n hx hb dX10_noon_236 rfl (lv_at hl 3 rfl) ?_
            refine m_gi (v := s 1) S hG 1 rfl (hts (.fieldLink RX10 206 "SwarmLineModel" "now" "I") (by decide +kernel)) dX10_noon_237 rfl ?_
            refine m_st S hG hL 21 rfl (show vp_in (s 14) 60 from tq_ne rfl h0 h1 c107) dX10_noon_240 (fun H locs hG hL => ?_)
            refine lv_aload_n hx hb dX10_noon_241 rfl (lv_at hl 3 rfl) ?_
            refine m_ga S hG 22 rfl (hts (.fieldLink RX10 64 "SwarmLineModel" "swarmPatience" "[I") (by decide +kernel)) dX10_noon_242 ?_
            refine lv_iload hx hb dX10_noon_245 (lv_at hl 0 rfl) ?_
            refine lv_bipush (v := 60) hx hb dX10_noon_247 (by decide) ?_
            refine m_st S hG hL 22 rfl (show vp_in (s 14) 60 from tq_ne rfl h0 h1 c107) dX10_noon_249 (fun H locs hG hL => ?_)
            refine lv_aload_n hx hb dX10_noon_250 rfl (lv_at hl 3 rfl) ?_
            refine m_ga S hG 23 rfl (hts (.fieldLink RX10 67 "SwarmLineModel" "swarmKeeper" "[I") (by decide +kernel)) dX10_noon_251 ?_
            refine lv_iload hx hb dX10_noon_254 (lv_at hl 0 rfl) ?_
            refine lv_iconst (v := (-1)) hx hb dX10_noon_256 (by decide) ?_
            refine m_st S hG hL 23 rfl (show vp_in (s 14) 60 from tq_ne rfl h0 h1 c107) dX10_noon_257 (fun H locs hG hL => ?_)
            refine lv_aload_n hx hb dX10_noon_258 rfl (lv_at hl 3 rfl) ?_
            refine m_ga S hG 24 rfl (hts (.fieldLink RX10 70 "SwarmLineModel" "swarmHour" "[I") (by decide +kernel)) dX10_noon_259 ?_
            refine lv_iload hx hb dX10_noon_262 (lv_at hl 0 rfl) ?_
            refine lv_iconst (v := (-1)) hx hb dX10_noon_264 (by decide) ?_
            refine m_st S hG hL 24 rfl (show vp_in (s 14) 60 from tq_ne rfl h0 h1 c107) dX10_noon_265 (fun H locs hG hL => ?_)
            refine lv_aload_n hx hb dX10_noon_266 rfl (lv_at hl 3 rfl) ?_
            refine m_ga S hG 25 rfl (hts (.fieldLink RX10 73 "SwarmLineModel" "swarmCase" "[I") (by decide +kernel)) dX10_noon_267 ?_
            refine lv_iload hx hb dX10_noon_270 (lv_at hl 0 rfl) ?_
            refine lv_iconst (v := (-1)) hx hb dX10_noon_272 (by decide) ?_
            refine m_st S hG hL 25 rfl (show vp_in (s 14) 60 from tq_ne rfl h0 h1 c107) dX10_noon_273 (fun H locs hG hL => ?_)
            refine lv_aload_n hx hb dX10_noon_274 rfl (lv_at hl 3 rfl) ?_
            refine m_ga S hG 9 rfl (hts (.fieldLink RX10 28 "SwarmLineModel" "hiveBees" "[I") (by decide +kernel)) dX10_noon_275 ?_
            refine lv_iload_n hx hb dX10_noon_278 rfl (lv_at hl 4 rfl) ?_
            refine lv_iload hx hb dX10_noon_279 (lv_at hl 1 rfl) ?_
            refine lv_iload hx hb dX10_noon_281 (lv_at hl 1 rfl) ?_
            refine lv_iconst (v := 2) hx hb dX10_noon_283 (by decide) ?_
            refine lv_idiv hx hb dX10_noon_284 (by decide) ?_
            refine lv_isub hx hb dX10_noon_285 ?_
            refine m_st S hG hL 9 rfl (show vp_in h 20 from hh) dX10_noon_286 (fun H locs hG hL => ?_)
            refine lv_aload_n hx hb dX10_noon_287 rfl (lv_at hl 3 rfl) ?_
            refine m_ga S hG 12 rfl (hts (.fieldLink RX10 37 "SwarmLineModel" "hiveWarm" "[I") (by decide +kernel)) dX10_noon_288 ?_
            refine lv_iload_n hx hb dX10_noon_291 rfl (lv_at hl 4 rfl) ?_
            refine lv_iconst (v := 0) hx hb dX10_noon_292 (by decide) ?_
            refine m_st S hG hL 12 rfl (show vp_in h 20 from hh) dX10_noon_293 (fun H locs hG hL => ?_)
            refine lv_aload_n hx hb dX10_noon_294 rfl (lv_at hl 3 rfl) ?_
            refine m_ga S hG 13 rfl (hts (.fieldLink RX10 40 "SwarmLineModel" "hiveLast" "[I") (by decide +kernel)) dX10_noon_295 ?_
            refine lv_iload_n hx hb dX10_noon_298 rfl (lv_at hl 4 rfl) ?_
            refine lv_aload_n hx hb dX10_noon_299 rfl (lv_at hl 3 rfl) ?_
            refine m_gi (v := s 1) S hG 1 rfl (hts (.fieldLink RX10 206 "SwarmLineModel" "now" "I") (by decide +kernel)) dX10_noon_300 rfl ?_
            refine m_st S hG hL 13 rfl (show vp_in h 20 from hh) dX10_noon_303 (fun H locs hG hL => ?_)
            exact m_vret S hr hlocks hG hL dX10_noon_304 (by simp only [nnS, nnC, nnB, nnW, nnM, eq_false c33, eq_false c56, eq_false c88, eq_false c98, eq_false c107, i03, ↓reduceIte, Bool.false_eq_true]) (by simp only [nnR, nnC, nn1, nn2, nnB, nnW, nnM, eq_false c33, eq_false c56, eq_false c88, eq_false c98, eq_false c107, i03, ↓reduceIte, Bool.false_eq_true])
          ·
            exact m_vret S hr hlocks hG hL dX10_noon_110 (by simp only [nnS, nnC, nnB, nnW, nnM, eq_false c33, eq_false c56, eq_false c88, eq_false c98, eq_true c107, i03, ↓reduceIte, Bool.false_eq_true]) (by simp only [nnR, nnC, nn1, nn2, nnB, nnW, nnM, eq_false c33, eq_false c56, eq_false c88, eq_false c98, eq_true c107, i03, ↓reduceIte, Bool.false_eq_true])
