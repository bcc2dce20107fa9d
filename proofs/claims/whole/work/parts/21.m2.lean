/-! what the reference's plain calls answer and do -/
theorem fIn_b {v lo hi : Int32} (h : ¬ fIn v lo hi = 0) : lo.toInt ≤ v.toInt ∧ v.toInt ≤ hi.toInt := by
  unfold fIn at h
  by_cases h1 : v < lo
  · simp [h1] at h
  · by_cases h2 : hi < v
    · simp [h1, h2] at h
    · rw [t_lt] at h1 h2; omega
theorem fIn_in {v hi : Int32} {n : Nat} (h : ¬ fIn v 0 hi = 0) (hn : hi.toInt < n) : vp_in v n := by
  have := fIn_b h
  exact vp_in_t (by have := this.1; simpa using this) (by omega)
theorem fIs_b {c h : Int32} (q : ¬ fIs c h = 0) : 0 ≤ h.toInt ∧ h.toInt < c.toInt := by
  unfold fIs at q
  by_cases h1 : h < 0
  · simp [h1] at q
  · by_cases h2 : c ≤ h
    · simp [h1, h2] at q
    · rw [t_lt] at h1; rw [t_le] at h2; have e : (0 : Int32).toInt = 0 := rfl; omega
theorem fIs_in {c h : Int32} {n : Nat} (q : ¬ fIs c h = 0) (hn : c.toInt ≤ n) : vp_in h n := by
  have := fIs_b q
  exact vp_in_t this.1 (by omega)
theorem tq_ne {x k : Int32} {n : Nat} (hk : k.toInt = n) (h0 : 0 ≤ x.toInt) (h1 : x.toInt ≤ n) (hn : ¬ x = k) : vp_in x n := by
  rw [t_eq] at hn
  exact vp_in_t h0 (by omega)
theorem il1 : ((1 : Int32) = 0) = False := eq_false (by decide)
theorem il2 : ((2 : Int32) = 0) = False := eq_false (by decide)
theorem il3 : ((3 : Int32) = 0) = False := eq_false (by decide)
def fEn (n : Int32) (s : Nat → Int32) : Int32 := if n < 0 then 0 else if n ≤ s 61 then 1 else 0
def sEn (n : Int32) (s : Nat → Int32) : Nat → Int32 := if n < 0 then upd s 0 0 else if n ≤ s 61 then upd (upd s 0 0) 61 n else upd s 0 0
def kWe (day w b : Int32) (s : Nat → Int32) : Int32 := if fIn day 0 30 = 0 then 1 else if fIn w (-20) 40 = 0 then 2 else if fIn b 0 100 = 0 then 2 else if s 1 / 24 < day then 0 else if day = 0 then (if s 1 = 0 then 0 else 3) else 3
def rWe (day w b : Int32) (s : Nat → Int32) (r : Nat → Nat → Int32) : Nat → Nat → Int32 := if kWe day w b s = 0 then up2 (up2 r 2 (Int32.toNatClampNeg day) w) 3 (Int32.toNatClampNeg day) b else r
def kFo (day a b : Int32) : Int32 := if fIn day 0 30 = 0 then 1 else if fIn a (-20) 40 = 0 then 2 else if fIn b (-20) 40 = 0 then 2 else if a ≤ b then 0 else 2
def rFo (day a b : Int32) (r : Nat → Nat → Int32) : Nat → Nat → Int32 := if kFo day a b = 0 then up2 (up2 r 4 (Int32.toNatClampNeg day) a) 5 (Int32.toNatClampNeg day) b else r
def kHi (x y b ro mk : Int32) (s : Nat → Int32) : Int32 := if fIn x 0 19 = 0 then 1 else if fIn y 0 19 = 0 then 1 else if fIn b 0 100000 = 0 then 1 else if fIn ro 1000 100000 = 0 then 1 else if fIn mk 0 7 = 0 then 1 else if s 6 = 20 then 2 else 0
def vHi (x y b ro mk : Int32) (s : Nat → Int32) : Int32 := if kHi x y b ro mk s = 0 then s 6 + 1 - 1 else 0
def sHi (x y b ro mk : Int32) (s : Nat → Int32) : Nat → Int32 := if kHi x y b ro mk s = 0 then upd (upd s 0 0) 6 (s 6 + 1) else upd s 0 (kHi x y b ro mk s)
def rHi (x y b ro mk : Int32) (s : Nat → Int32) (r : Nat → Nat → Int32) : Nat → Nat → Int32 := if kHi x y b ro mk s = 0 then up2 (up2 (up2 (up2 (up2 (up2 (up2 r 7 (Int32.toNatClampNeg (s 6)) x) 8 (Int32.toNatClampNeg (s 6)) y) 9 (Int32.toNatClampNeg (s 6)) b) 10 (Int32.toNatClampNeg (s 6)) ro) 11 (Int32.toNatClampNeg (s 6)) mk) 12 (Int32.toNatClampNeg (s 6)) 0) 13 (Int32.toNatClampNeg (s 6)) (-1) else r
def kKe (x y b la pa fr to : Int32) (s : Nat → Int32) : Int32 := if fIn x 0 19 = 0 then 1 else if fIn y 0 19 = 0 then 1 else if fIn b 0 20 = 0 then 1 else if fIn la 0 9 = 0 then 1 else if fIn pa 1 10 = 0 then 1 else if fIn fr 0 23 = 0 then 1 else if fIn to 0 23 = 0 then 1 else if s 26 = 12 then 2 else 0
def vKe (x y b la pa fr to : Int32) (s : Nat → Int32) : Int32 := if kKe x y b la pa fr to s = 0 then s 26 else 0
def sKe (x y b la pa fr to : Int32) (s : Nat → Int32) : Nat → Int32 := if kKe x y b la pa fr to s = 0 then upd (upd s 0 0) 26 (s 26 + 1) else upd s 0 (kKe x y b la pa fr to s)
def rKe (x y b la pa fr to : Int32) (s : Nat → Int32) (r : Nat → Nat → Int32) : Nat → Nat → Int32 := if kKe x y b la pa fr to s = 0 then up2 (up2 (up2 (up2 (up2 (up2 (up2 (up2 (up2 (up2 (up2 r 27 (Int32.toNatClampNeg (s 26)) x) 28 (Int32.toNatClampNeg (s 26)) y) 29 (Int32.toNatClampNeg (s 26)) b) 30 (Int32.toNatClampNeg (s 26)) la) 31 (Int32.toNatClampNeg (s 26)) pa) 32 (Int32.toNatClampNeg (s 26)) fr) 33 (Int32.toNatClampNeg (s 26)) to) 34 (Int32.toNatClampNeg (s 26)) 0) 35 (Int32.toNatClampNeg (s 26)) 0) 37 (Int32.toNatClampNeg (s 26)) (-1)) 38 (Int32.toNatClampNeg (s 26)) 0 else r
def kBo (k n : Int32) (s : Nat → Int32) : Int32 := if fIs (s 26) k = 0 then 1 else if fIn n 0 20 = 0 then 2 else 0
def bBo (k n : Int32) (r : Nat → Nat → Int32) : Int32 := if r 29 (Int32.toNatClampNeg k) + n ≤ 20 then r 29 (Int32.toNatClampNeg k) + n else 20
def vBo (k n : Int32) (s : Nat → Int32) (r : Nat → Nat → Int32) : Int32 := if kBo k n s = 0 then bBo k n r else 0
def rBo (k n : Int32) (s : Nat → Int32) (r : Nat → Nat → Int32) : Nat → Nat → Int32 := if kBo k n s = 0 then up2 r 29 (Int32.toNatClampNeg k) (bBo k n r) else r
def fOn (k : Int32) (s : Nat → Int32) (r : Nat → Nat → Int32) : Int32 := if r 33 (Int32.toNatClampNeg k) < r 32 (Int32.toNatClampNeg k) then (if r 32 (Int32.toNatClampNeg k) ≤ s 1 - s 1 / 24 * 24 then 1 else if r 33 (Int32.toNatClampNeg k) < s 1 - s 1 / 24 * 24 then 0 else 1) else (if s 1 - s 1 / 24 * 24 < r 32 (Int32.toNatClampNeg k) then 0 else if r 33 (Int32.toNatClampNeg k) < s 1 - s 1 / 24 * 24 then 0 else 1)
def fAg (k c : Int32) (s : Nat → Int32) (r : Nat → Nat → Int32) : Int32 := if fOn k s r = 0 then 1 else if r 34 (Int32.toNatClampNeg k) = 0 then (if r 29 (Int32.toNatClampNeg k) = 0 then 3 else if r 45 (Int32.toNatClampNeg c) ≤ r 30 (Int32.toNatClampNeg k) then 0 else 4) else 2
def wSt (k c : Int32) (r : Nat → Nat → Int32) : Int32 := fSt (r 27 (Int32.toNatClampNeg k)) (r 28 (Int32.toNatClampNeg k)) (r 42 (Int32.toNatClampNeg c)) (r 43 (Int32.toNatClampNeg c))
def wHo (d p : Int32) : Int32 := d / p + (if d - d / p * p ≤ 0 then 0 else 1)
def fWa (k c : Int32) (r : Nat → Nat → Int32) : Int32 := if 1 ≤ wHo (wSt k c r) (r 31 (Int32.toNatClampNeg k)) then wHo (wSt k c r) (r 31 (Int32.toNatClampNeg k)) else 1
def kTo (n i : Int32) (hi what : Int32) : Int32 := if fIs n i = 0 then 1 else if fIn what 0 hi = 0 then 2 else 0
def vLo (h w : Int32) (s : Nat → Int32) (r : Nat → Nat → Int32) : Int32 := if kTo (s 6) h 4 w = 0 then (if w = 0 then r 9 (Int32.toNatClampNeg h) else if w = 1 then r 10 (Int32.toNatClampNeg h) else if w = 2 then r 11 (Int32.toNatClampNeg h) else if w = 3 then r 12 (Int32.toNatClampNeg h) else r 13 (Int32.toNatClampNeg h)) else 0
def vCr (k w : Int32) (s : Nat → Int32) (r : Nat → Nat → Int32) : Int32 := if kTo (s 26) k 4 w = 0 then (if w = 0 then r 34 (Int32.toNatClampNeg k) else if w = 1 then r 29 (Int32.toNatClampNeg k) else if w = 2 then r 35 (Int32.toNatClampNeg k) else if w = 3 then r 37 (Int32.toNatClampNeg k) else r 38 (Int32.toNatClampNeg k)) else 0
def tab9 (w a0 a1 a2 a3 a4 a5 a6 a7 a8 a9 : Int32) : Int32 := if w = 0 then a0 else if w = 1 then a1 else if w = 2 then a2 else if w = 3 then a3 else if w = 4 then a4 else if w = 5 then a5 else if w = 6 then a6 else if w = 7 then a7 else if w = 8 then a8 else a9
theorem tab9_out {w : Int32} (h : w.toInt < 0 ∨ 8 < w.toInt) (a0 a1 a2 a3 a4 a5 a6 a7 a8 a9 : Int32) : tab9 w a0 a1 a2 a3 a4 a5 a6 a7 a8 a9 = a9 := by
  have q : ∀ v : Int32, 0 ≤ v.toInt → v.toInt ≤ 8 → ¬ w = v := fun v a b e => by subst e; omega
  simp [tab9, q 0 (by decide) (by decide), q 1 (by decide) (by decide), q 2 (by decide) (by decide), q 3 (by decide) (by decide), q 4 (by decide) (by decide), q 5 (by decide) (by decide), q 6 (by decide) (by decide), q 7 (by decide) (by decide), q 8 (by decide) (by decide)]
def vSw (i w : Int32) (s : Nat → Int32) (r : Nat → Nat → Int32) : Int32 := if kTo (s 14) i 9 w = 0 then tab9 w (r 15 (Int32.toNatClampNeg i)) (r 16 (Int32.toNatClampNeg i)) (r 17 (Int32.toNatClampNeg i)) (r 18 (Int32.toNatClampNeg i)) (r 19 (Int32.toNatClampNeg i)) (r 20 (Int32.toNatClampNeg i)) (r 21 (Int32.toNatClampNeg i)) (r 22 (Int32.toNatClampNeg i)) (r 23 (Int32.toNatClampNeg i)) (r 24 (Int32.toNatClampNeg i)) else 0
def vMa (i w : Int32) (s : Nat → Int32) (r : Nat → Nat → Int32) : Int32 := if kTo (s 39) i 9 w = 0 then tab9 w (r 41 (Int32.toNatClampNeg i)) (r 42 (Int32.toNatClampNeg i)) (r 43 (Int32.toNatClampNeg i)) (r 45 (Int32.toNatClampNeg i)) (r 46 (Int32.toNatClampNeg i)) (r 47 (Int32.toNatClampNeg i)) (r 48 (Int32.toNatClampNeg i)) (r 49 (Int32.toNatClampNeg i)) (r 50 (Int32.toNatClampNeg i)) (r 51 (Int32.toNatClampNeg i)) else 0
def vAs (i w : Int32) (s : Nat → Int32) (r : Nat → Nat → Int32) : Int32 := if i < 0 then -1 else if i < s 57 then (if w = 0 then r 58 (Int32.toNatClampNeg i) else if w = 1 then r 59 (Int32.toNatClampNeg i) else -1) else -1
set_option maxHeartbeats 4000000 in
set_option maxRecDepth 100000 in
theorem c_X10_end {l : Launch} {D : va_G} {cI cZ cB cO cR cJ : ClassId} {Hb : Heap} {lv : Nat → Prop} {ad : Nat → Nat} {ce0 : Nat → va_E} (hlv : lM lv) (n : Int32) (s : Nat → Int32) (r : Nat → Nat → Int32)  : mMet l D cI cZ cB cO cR cJ Hb lv ad ce0 yX10_end wsX10_end 0 0 [.ref (ad 0), .int n] s r (some (.int (fEn n s))) (sEn n s) r := by
  refine Met.ofW (cc := cX10_end) (maxL := 2) (ret := (some .boolean)) (by decide) rfl ?_
  intro p0 e0 s0 m0 args below meth c0 s₁ B hml hv
  obtain ⟨rfl, hG, hK⟩ := hv
  have hx := B.exec
  have hb := B.bytes
  have hr := B.returns
  have hts := atoms_spec (ws := wsX10_end) B.pre
  have hown : s0.vm.findClass RX10 = some m0.cls := findClass_of_methodNamed B.named
  have hlocks := B.notSynchronized
  have S : mX p0 m0 c0 cX10_end 2 s0 _ wsX10_end D cI cZ cB cO cR cJ lv := ⟨⟨hx, hb, hml, hown, hts⟩, hK, fun w h => List.mem_cons_of_mem _ (List.mem_append_right _ h), hlv⟩
  have hL : gL Hb [] := gL.nil
  have hl := lv_entry ([.ref (ad 0), .int n]) (n := 2) (Nat.le_of_ble_eq_true rfl)
  rw [lg_entry_eq]
  generalize (lg_sl ([.ref (ad 0), .int n]) ++ List.replicate (2 - (lg_sl ([.ref (ad 0), .int n])).length) Slot.unset).toArray = ls at hl ⊢
  have hl : lv_has ls 2 [(0, .ref (ad 0)), (1, .int n)] := hl
  refine lv_aload_n hx hb dX10_end_0 rfl (lv_at hl 0 rfl) ?_
  refine lv_iconst (v := 0) hx hb dX10_end_1 (by decide) ?_
  refine m_pi S hG hL 0 rfl (hts (.fieldLink RX10 180 "SwarmLineModel" "thrown" "I") (by decide +kernel)) dX10_end_2 (fun H locs hG hL => ?_)
  refine lv_iload_n hx hb dX10_end_5 rfl (lv_at hl 1 rfl) ?_
  refine lv_if_lt (tgt := 17) hx hb dX10_end_6 (by decide) (fun c6 => ?_) (fun c6 => ?_)
  ·
    refine lv_iconst (v := 0) hx hb dX10_end_17 (by decide) ?_
    exact m_zret S hr hlocks (by decide) hG hL dX10_end_18 (by simp only [fEn, sEn, eq_true c6, il1, il2, il3, ↓reduceIte]) (by simp only [fEn, sEn, eq_true c6, il1, il2, il3, ↓reduceIte]) (by rfl)
  ·
    refine lv_iload_n hx hb dX10_end_9 rfl (lv_at hl 1 rfl) ?_
    refine lv_aload_n hx hb dX10_end_10 rfl (lv_at hl 0 rfl) ?_
    refine m_gi (v := s 61) S hG 61 rfl (hts (.fieldLink RX10 195 "SwarmLineModel" "taped" "I") (by decide +kernel)) dX10_end_11 rfl ?_
    refine lv_icmp_le (tgt := 19) hx hb dX10_end_14 (by decide) (fun c14 => ?_) (fun c14 => ?_)
    ·
      refine lv_aload_n hx hb dX10_end_19 rfl (lv_at hl 0 rfl) ?_
      refine lv_iload_n hx hb dX10_end_20 rfl (lv_at hl 1 rfl) ?_
      refine m_pi S hG hL 61 rfl (hts (.fieldLink RX10 195 "SwarmLineModel" "taped" "I") (by decide +kernel)) dX10_end_21 (fun H locs hG hL => ?_)
      refine lv_iconst (v := 1) hx hb dX10_end_24 (by decide) ?_
      exact m_zret S hr hlocks (by decide) hG hL dX10_end_25 (by simp only [fEn, sEn, eq_false c6, eq_true c14, il1, il2, il3, ↓reduceIte]) (by simp only [fEn, sEn, eq_false c6, eq_true c14, il1, il2, il3, ↓reduceIte]) (by rfl)
    ·
      refine lv_iconst (v := 0) hx hb dX10_end_17 (by decide) ?_
      exact m_zret S hr hlocks (by decide) hG hL dX10_end_18 (by simp only [fEn, sEn, eq_false c6, eq_false c14, il1, il2, il3, ↓reduceIte]) (by simp only [fEn, sEn, eq_false c6, eq_false c14, il1, il2, il3, ↓reduceIte]) (by rfl)
set_option maxHeartbeats 4000000 in
set_option maxRecDepth 100000 in
theorem c_X10_weather {l : Launch} {D : va_G} {cI cZ cB cO cR cJ : ClassId} {Hb : Heap} {lv : Nat → Prop} {ad : Nat → Nat} {ce0 : Nat → va_E} (hlv : lM lv) (day : Int32) (w : Int32) (b : Int32) (s : Nat → Int32) (r : Nat → Nat → Int32)  : mMet l D cI cZ cB cO cR cJ Hb lv ad ce0 yX10_weather wsX10_weather 1 22 [.ref (ad 0), .int day, .int w, .int b] s r none (upd s 0 (kWe day w b s)) (rWe day w b s r) := by
  refine Met.ofW (cc := cX10_weather) (maxL := 4) (ret := none) (by decide) rfl ?_
  intro p0 e0 s0 m0 args below meth c0 s₁ B hml hv
  obtain ⟨rfl, hG, hK⟩ := hv
  have hx := B.exec
  have hb := B.bytes
  have hr := B.returns
  have hts := atoms_spec (ws := wsX10_weather) B.pre
  have hown : s0.vm.findClass RX10 = some m0.cls := findClass_of_methodNamed B.named
  have hlocks := B.notSynchronized
  have S : mX p0 m0 c0 cX10_weather 4 s0 _ wsX10_weather D cI cZ cB cO cR cJ lv := ⟨⟨hx, hb, hml, hown, hts⟩, hK, fun w h => List.mem_cons_of_mem _ (List.mem_append_right _ h), hlv⟩
  have hL : gL Hb [] := gL.nil
  have hl := lv_entry ([.ref (ad 0), .int day, .int w, .int b]) (n := 4) (Nat.le_of_ble_eq_true rfl)
  rw [lg_entry_eq]
  generalize (lg_sl ([.ref (ad 0), .int day, .int w, .int b]) ++ List.replicate (4 - (lg_sl ([.ref (ad 0), .int day, .int w, .int b])).length) Slot.unset).toArray = ls at hl ⊢
  have hl : lv_has ls 4 [(0, .ref (ad 0)), (1, .int day), (2, .int w), (3, .int b)] := hl
  refine lv_aload_n hx hb dX10_weather_0 rfl (lv_at hl 0 rfl) ?_
  refine lv_iload_n hx hb dX10_weather_1 rfl (lv_at hl 1 rfl) ?_
  refine lv_iconst (v := 0) hx hb dX10_weather_2 (by decide) ?_
  refine lv_bipush (v := 30) hx hb dX10_weather_3 (by decide) ?_
  refine m_callP (n := 3) (As := [.int day, .int 0, .int 30]) (rest := [.ref (ad 0)]) (st1 := .int (fIn day 0 30) :: [.ref (ad 0)]) S.1 (c_X10_isIn day 0 30) gX10_weather_X10_isIn rfl (by decide +kernel) ⟨Nat.le_of_ble_eq_true rfl, Nat.le_of_ble_eq_true rfl⟩ rfl hl.1 rfl (Nat.le_of_ble_eq_true rfl) dX10_weather_5 ⟨Nat.zero_le _, Nat.zero_le _⟩ rfl ?_
  refine lv_if_ne (tgt := 15) hx hb dX10_weather_8 (by decide) (fun c8 => ?_) (fun c8 => ?_)
  ·
    refine lv_iload_n hx hb dX10_weather_15 rfl (lv_at hl 2 rfl) ?_
    refine lv_bipush (v := (-20)) hx hb dX10_weather_16 (by decide) ?_
    refine lv_bipush (v := 40) hx hb dX10_weather_18 (by decide) ?_
    refine m_callP (n := 3) (As := [.int w, .int (-20), .int 40]) (rest := [.ref (ad 0)]) (st1 := .int (fIn w (-20) 40) :: [.ref (ad 0)]) S.1 (c_X10_isIn w (-20) 40) gX10_weather_X10_isIn rfl (by decide +kernel) ⟨Nat.le_of_ble_eq_true rfl, Nat.le_of_ble_eq_true rfl⟩ rfl hl.1 rfl (Nat.le_of_ble_eq_true rfl) dX10_weather_20 ⟨Nat.zero_le _, Nat.zero_le _⟩ rfl ?_
    refine lv_if_eq (tgt := 36) hx hb dX10_weather_23 (by decide) (fun c23 => ?_) (fun c23 => ?_)
    ·
      refine lv_iconst (v := 2) hx hb dX10_weather_36 (by decide) ?_
      refine lv_goto (tgt := 67) hx hb dX10_weather_37 (by decide) ?_
      refine m_pi S hG hL 0 rfl (hts (.fieldLink RX10 180 "SwarmLineModel" "thrown" "I") (by decide +kernel)) dX10_weather_67 (fun H locs hG hL => ?_)
      refine lv_aload_n hx hb dX10_weather_70 rfl (lv_at hl 0 rfl) ?_
      refine m_gi (v := 2) S hG 0 rfl (hts (.fieldLink RX10 180 "SwarmLineModel" "thrown" "I") (by decide +kernel)) dX10_weather_71 rfl ?_
      refine lv_if_le (tgt := 78) hx hb dX10_weather_74 (by decide) (fun c => absurd c (by decide)) (fun _ => ?_)
      exact m_vret S hr hlocks hG hL dX10_weather_77 (by simp only [kWe, rWe, eq_false c8, eq_true c23, il1, il2, il3, ↓reduceIte]) (by simp only [kWe, rWe, eq_false c8, eq_true c23, il1, il2, il3, ↓reduceIte])
    ·
      refine lv_iload_n hx hb dX10_weather_26 rfl (lv_at hl 3 rfl) ?_
      refine lv_iconst (v := 0) hx hb dX10_weather_27 (by decide) ?_
      refine lv_bipush (v := 100) hx hb dX10_weather_28 (by decide) ?_
      refine m_callP (n := 3) (As := [.int b, .int 0, .int 100]) (rest := [.ref (ad 0)]) (st1 := .int (fIn b 0 100) :: [.ref (ad 0)]) S.1 (c_X10_isIn b 0 100) gX10_weather_X10_isIn rfl (by decide +kernel) ⟨Nat.le_of_ble_eq_true rfl, Nat.le_of_ble_eq_true rfl⟩ rfl hl.1 rfl (Nat.le_of_ble_eq_true rfl) dX10_weather_30 ⟨Nat.zero_le _, Nat.zero_le _⟩ rfl ?_
      refine lv_if_ne (tgt := 40) hx hb dX10_weather_33 (by decide) (fun c33 => ?_) (fun c33 => ?_)
      ·
        refine lv_iload_n hx hb dX10_weather_40 rfl (lv_at hl 1 rfl) ?_
        refine lv_aload_n hx hb dX10_weather_41 rfl (lv_at hl 0 rfl) ?_
        refine m_gi (v := s 1) S hG 1 rfl (hts (.fieldLink RX10 206 "SwarmLineModel" "now" "I") (by decide +kernel)) dX10_weather_42 rfl ?_
        refine lv_bipush (v := 24) hx hb dX10_weather_45 (by decide) ?_
        refine lv_idiv hx hb dX10_weather_47 (by decide) ?_
        refine lv_icmp_gt (tgt := 66) hx hb dX10_weather_48 (by decide) (fun c48 => ?_) (fun c48 => ?_)
        ·
          refine lv_iconst (v := 0) hx hb dX10_weather_66 (by decide) ?_
          refine m_pi S hG hL 0 rfl (hts (.fieldLink RX10 180 "SwarmLineModel" "thrown" "I") (by decide +kernel)) dX10_weather_67 (fun H locs hG hL => ?_)
          refine lv_aload_n hx hb dX10_weather_70 rfl (lv_at hl 0 rfl) ?_
          refine m_gi (v := 0) S hG 0 rfl (hts (.fieldLink RX10 180 "SwarmLineModel" "thrown" "I") (by decide +kernel)) dX10_weather_71 rfl ?_
          refine lv_if_le (tgt := 78) hx hb dX10_weather_74 (by decide) (fun _ => ?_) (fun c => absurd c (by decide))
          refine lv_aload_n hx hb dX10_weather_78 rfl (lv_at hl 0 rfl) ?_
          refine m_ga S hG 2 rfl (hts (.fieldLink RX10 7 "SwarmLineModel" "warmth" "[I") (by decide +kernel)) dX10_weather_79 ?_
          refine lv_iload_n hx hb dX10_weather_82 rfl (lv_at hl 1 rfl) ?_
          refine lv_iload_n hx hb dX10_weather_83 rfl (lv_at hl 2 rfl) ?_
          refine m_st S hG hL 2 rfl (show vp_in day 31 from fIn_in c8 (by decide)) dX10_weather_84 (fun H locs hG hL => ?_)
          refine lv_aload_n hx hb dX10_weather_85 rfl (lv_at hl 0 rfl) ?_
          refine m_ga S hG 3 rfl (hts (.fieldLink RX10 13 "SwarmLineModel" "bloom" "[I") (by decide +kernel)) dX10_weather_86 ?_
          refine lv_iload_n hx hb dX10_weather_89 rfl (lv_at hl 1 rfl) ?_
          refine lv_iload_n hx hb dX10_weather_90 rfl (lv_at hl 3 rfl) ?_
          refine m_st S hG hL 3 rfl (show vp_in day 31 from fIn_in c8 (by decide)) dX10_weather_91 (fun H locs hG hL => ?_)
          exact m_vret S hr hlocks hG hL dX10_weather_92 (by simp only [kWe, rWe, eq_false c8, eq_false c23, eq_false c33, eq_true c48, il1, il2, il3, ↓reduceIte]) (by simp only [kWe, rWe, eq_false c8, eq_false c23, eq_false c33, eq_true c48, il1, il2, il3, ↓reduceIte])
        ·
          refine lv_iload_n hx hb dX10_weather_51 rfl (lv_at hl 1 rfl) ?_
          refine lv_if_ne (tgt := 62) hx hb dX10_weather_52 (by decide) (fun c52 => ?_) (fun c52 => ?_)
          ·
            refine lv_iconst (v := 3) hx hb dX10_weather_62 (by decide) ?_
            refine lv_goto (tgt := 67) hx hb dX10_weather_63 (by decide) ?_
            refine m_pi S hG hL 0 rfl (hts (.fieldLink RX10 180 "SwarmLineModel" "thrown" "I") (by decide +kernel)) dX10_weather_67 (fun H locs hG hL => ?_)
            refine lv_aload_n hx hb dX10_weather_70 rfl (lv_at hl 0 rfl) ?_
            refine m_gi (v := 3) S hG 0 rfl (hts (.fieldLink RX10 180 "SwarmLineModel" "thrown" "I") (by decide +kernel)) dX10_weather_71 rfl ?_
            refine lv_if_le (tgt := 78) hx hb dX10_weather_74 (by decide) (fun c => absurd c (by decide)) (fun _ => ?_)
            exact m_vret S hr hlocks hG hL dX10_weather_77 (by simp only [kWe, rWe, eq_false c8, eq_false c23, eq_false c33, eq_false c48, eq_false c52, il1, il2, il3, ↓reduceIte]) (by simp only [kWe, rWe, eq_false c8, eq_false c23, eq_false c33, eq_false c48, eq_false c52, il1, il2, il3, ↓reduceIte])
          ·
            refine lv_aload_n hx hb dX10_weather_55 rfl (lv_at hl 0 rfl) ?_
            refine m_gi (v := s 1) S hG 1 rfl (hts (.fieldLink RX10 206 "SwarmLineModel" "now" "I") (by decide +kernel)) dX10_weather_56 rfl ?_
            refine lv_if_eq (tgt := 66) hx hb dX10_weather_59 (by decide) (fun c59 => ?_) (fun c59 => ?_)
            ·
              refine lv_iconst (v := 0) hx hb dX10_weather_66 (by decide) ?_
              refine m_pi S hG hL 0 rfl (hts (.fieldLink RX10 180 "SwarmLineModel" "thrown" "I") (by decide +kernel)) dX10_weather_67 (fun H locs hG hL => ?_)
              refine lv_aload_n hx hb dX10_weather_70 rfl (lv_at hl 0 rfl) ?_
              refine m_gi (v := 0) S hG 0 rfl (hts (.fieldLink RX10 180 "SwarmLineModel" "thrown" "I") (by decide +kernel)) dX10_weather_71 rfl ?_
              refine lv_if_le (tgt := 78) hx hb dX10_weather_74 (by decide) (fun _ => ?_) (fun c => absurd c (by decide))
              refine lv_aload_n hx hb dX10_weather_78 rfl (lv_at hl 0 rfl) ?_
              refine m_ga S hG 2 rfl (hts (.fieldLink RX10 7 "SwarmLineModel" "warmth" "[I") (by decide +kernel)) dX10_weather_79 ?_
              refine lv_iload_n hx hb dX10_weather_82 rfl (lv_at hl 1 rfl) ?_
              refine lv_iload_n hx hb dX10_weather_83 rfl (lv_at hl 2 rfl) ?_
              refine m_st S hG hL 2 rfl (show vp_in day 31 from fIn_in c8 (by decide)) dX10_weather_84 (fun H locs hG hL => ?_)
              refine lv_aload_n hx hb dX10_weather_85 rfl (lv_at hl 0 rfl) ?_
              refine m_ga S hG 3 rfl (hts (.fieldLink RX10 13 "SwarmLineModel" "bloom" "[I") (by decide +kernel)) dX10_weather_86 ?_
              refine lv_iload_n hx hb dX10_weather_89 rfl (lv_at hl 1 rfl) ?_
              refine lv_iload_n hx hb dX10_weather_90 rfl (lv_at hl 3 rfl) ?_
              refine m_st S hG hL 3 rfl (show vp_in day 31 from fIn_in c8 (by decide)) dX10_weather_91 (fun H locs hG hL => ?_)
              exact m_vret S hr hlocks hG hL dX10_weather_92 (by simp only [kWe, rWe, eq_false c8, eq_false c23, eq_false c33, eq_false c48, eq_true c52, eq_true c59, il1, il2, il3, ↓reduceIte]) (by simp only [kWe, rWe, eq_false c8, eq_false c23, eq_false c33, eq_false c48, eq_true c52, eq_true c59, il1, il2, il3, ↓reduceIte])
            ·
              refine lv_iconst (v := 3) hx hb dX10_weather_62 (by decide) ?_
              refine lv_goto (tgt := 67) hx hb dX10_weather_63 (by decide) ?_
              refine m_pi S hG hL 0 rfl (hts (.fieldLink RX10 180 "SwarmLineModel" "thrown" "I") (by decide +kernel)) dX10_weather_67 (fun H locs hG hL => ?_)
              refine lv_aload_n hx hb dX10_weather_70 rfl (lv_at hl 0 rfl) ?_
              refine m_gi (v := 3) S hG 0 rfl (hts (.fieldLink RX10 180 "SwarmLineModel" "thrown" "I") (by decide +kernel)) dX10_weather_71 rfl ?_
              refine lv_if_le (tgt := 78) hx hb dX10_weather_74 (by decide) (fun c => absurd c (by decide)) (fun _ => ?_)
              exact m_vret S hr hlocks hG hL dX10_weather_77 (by simp only [kWe, rWe, eq_false c8, eq_false c23, eq_false c33, eq_false c48, eq_true c52, eq_false c59, il1, il2, il3, ↓reduceIte]) (by simp only [kWe, rWe, eq_false c8, eq_false c23, eq_false c33, eq_false c48, eq_true c52, eq_false c59, il1, il2, il3, ↓reduceIte])
      ·
        refine lv_iconst (v := 2) hx hb dX10_weather_36 (by decide) ?_
        refine lv_goto (tgt := 67) hx hb dX10_weather_37 (by decide) ?_
        refine m_pi S hG hL 0 rfl (hts (.fieldLink RX10 180 "SwarmLineModel" "thrown" "I") (by decide +kernel)) dX10_weather_67 (fun H locs hG hL => ?_)
        refine lv_aload_n hx hb dX10_weather_70 rfl (lv_at hl 0 rfl) ?_
        refine m_gi (v := 2) S hG 0 rfl (hts (.fieldLink RX10 180 "SwarmLineModel" "thrown" "I") (by decide +kernel)) dX10_weather_71 rfl ?_
        refine lv_if_le (tgt := 78) hx hb dX10_weather_74 (by decide) (fun c => absurd c (by decide)) (fun _ => ?_)
        exact m_vret S hr hlocks hG hL dX10_weather_77 (by simp only [kWe, rWe, eq_false c8, eq_false c23, eq_true c33, il1, il2, il3, ↓reduceIte]) (by simp only [kWe, rWe, eq_false c8, eq_false c23, eq_true c33, il1, il2, il3, ↓reduceIte])
  ·
    refine lv_iconst (v := 1) hx hb dX10_weather_11 (by decide) ?_
    refine lv_goto (tgt := 67) hx hb dX10_weather_12 (by decide) ?_
    refine m_pi S hG hL 0 rfl (hts (.fieldLink RX10 180 "SwarmLineModel" "thrown" "I") (by decide +kernel)) dX10_weather_67 (fun H locs hG hL => ?_)
    refine lv_aload_n hx hb dX10_weather_70 rfl (lv_at hl 0 rfl) ?_
    refine m_gi (v := 1) S hG 0 rfl (hts (.fieldLink RX10 180 "SwarmLineModel" "thrown" "I") (by decide +kernel)) dX10_weather_71 rfl ?_
    refine lv_if_le (tgt := 78) hx hb dX10_weather_74 (by decide) (fun c => absurd c (by decide)) (fun _ => ?_)
    exact m_vret S hr hlocks hG hL dX10_weather_77 (by simp only [kWe, rWe, eq_true c8, il1, il2, il3, ↓reduceIte]) (by simp only [kWe, rWe, eq_true c8, il1, il2, il3, ↓reduceIte])
set_option maxHeartbeats 4000000 in
set_option maxRecDepth 100000 in
theorem c_X10_foretell {l : Launch} {D : va_G} {cI cZ cB cO cR cJ : ClassId} {Hb : Heap} {lv : Nat → Prop} {ad : Nat → Nat} {ce0 : Nat → va_E} (hlv : lM lv) (day : Int32) (a : Int32) (b : Int32) (s : Nat → Int32) (r : Nat → Nat → Int32)  : mMet l D cI cZ cB cO cR cJ Hb lv ad ce0 yX10_foretell wsX10_foretell 1 22 [.ref (ad 0), .int day, .int a, .int b] s r none (upd s 0 (kFo day a b)) (rFo day a b r) := by
  refine Met.ofW (cc := cX10_foretell) (maxL := 4) (ret := none) (by decide) rfl ?_
  intro p0 e0 s0 m0 args below meth c0 s₁ B hml hv
  obtain ⟨rfl, hG, hK⟩ := hv
  have hx := B.exec
  have hb := B.bytes
  have hr := B.returns
  have hts := atoms_spec (ws := wsX10_foretell) B.pre
  have hown : s0.vm.findClass RX10 = some m0.cls := findClass_of_methodNamed B.named
  have hlocks := B.notSynchronized
  have S : mX p0 m0 c0 cX10_foretell 4 s0 _ wsX10_foretell D cI cZ cB cO cR cJ lv := ⟨⟨hx, hb, hml, hown, hts⟩, hK, fun w h => List.mem_cons_of_mem _ (List.mem_append_right _ h), hlv⟩
  have hL : gL Hb [] := gL.nil
  have hl := lv_entry ([.ref (ad 0), .int day, .int a, .int b]) (n := 4) (Nat.le_of_ble_eq_true rfl)
  rw [lg_entry_eq]
  generalize (lg_sl ([.ref (ad 0), .int day, .int a, .int b]) ++ List.replicate (4 - (lg_sl ([.ref (ad 0), .int day, .int a, .int b])).length) Slot.unset).toArray = ls at hl ⊢
  have hl : lv_has ls 4 [(0, .ref (ad 0)), (1, .int day), (2, .int a), (3, .int b)] := hl
  refine lv_aload_n hx hb dX10_foretell_0 rfl (lv_at hl 0 rfl) ?_
  refine lv_iload_n hx hb dX10_foretell_1 rfl (lv_at hl 1 rfl) ?_
  refine lv_iconst (v := 0) hx hb dX10_foretell_2 (by decide) ?_
  refine lv_bipush (v := 30) hx hb dX10_foretell_3 (by decide) ?_
  refine m_callP (n := 3) (As := [.int day, .int 0, .int 30]) (rest := [.ref (ad 0)]) (st1 := .int (fIn day 0 30) :: [.ref (ad 0)]) S.1 (c_X10_isIn day 0 30) gX10_foretell_X10_isIn rfl (by decide +kernel) ⟨Nat.le_of_ble_eq_true rfl, Nat.le_of_ble_eq_true rfl⟩ rfl hl.1 rfl (Nat.le_of_ble_eq_true rfl) dX10_foretell_5 ⟨Nat.zero_le _, Nat.zero_le _⟩ rfl ?_
  refine lv_if_ne (tgt := 15) hx hb dX10_foretell_8 (by decide) (fun c8 => ?_) (fun c8 => ?_)
  ·
    refine lv_iload_n hx hb dX10_foretell_15 rfl (lv_at hl 2 rfl) ?_
    refine lv_bipush (v := (-20)) hx hb dX10_foretell_16 (by decide) ?_
    refine lv_bipush (v := 40) hx hb dX10_foretell_18 (by decide) ?_
    refine m_callP (n := 3) (As := [.int a, .int (-20), .int 40]) (rest := [.ref (ad 0)]) (st1 := .int (fIn a (-20) 40) :: [.ref (ad 0)]) S.1 (c_X10_isIn a (-20) 40) gX10_foretell_X10_isIn rfl (by decide +kernel) ⟨Nat.le_of_ble_eq_true rfl, Nat.le_of_ble_eq_true rfl⟩ rfl hl.1 rfl (Nat.le_of_ble_eq_true rfl) dX10_foretell_20 ⟨Nat.zero_le _, Nat.zero_le _⟩ rfl ?_
    refine lv_if_eq (tgt := 42) hx hb dX10_foretell_23 (by decide) (fun c23 => ?_) (fun c23 => ?_)
    ·
      refine lv_iconst (v := 2) hx hb dX10_foretell_42 (by decide) ?_
      refine lv_goto (tgt := 47) hx hb dX10_foretell_43 (by decide) ?_
      refine m_pi S hG hL 0 rfl (hts (.fieldLink RX10 180 "SwarmLineModel" "thrown" "I") (by decide +kernel)) dX10_foretell_47 (fun H locs hG hL => ?_)
      refine lv_aload_n hx hb dX10_foretell_50 rfl (lv_at hl 0 rfl) ?_
      refine m_gi (v := 2) S hG 0 rfl (hts (.fieldLink RX10 180 "SwarmLineModel" "thrown" "I") (by decide +kernel)) dX10_foretell_51 rfl ?_
      refine lv_if_le (tgt := 58) hx hb dX10_foretell_54 (by decide) (fun c => absurd c (by decide)) (fun _ => ?_)
      exact m_vret S hr hlocks hG hL dX10_foretell_57 (by simp only [kFo, rFo, eq_false c8, eq_true c23, il1, il2, il3, ↓reduceIte]) (by simp only [kFo, rFo, eq_false c8, eq_true c23, il1, il2, il3, ↓reduceIte])
    ·
      refine lv_iload_n hx hb dX10_foretell_26 rfl (lv_at hl 3 rfl) ?_
      refine lv_bipush (v := (-20)) hx hb dX10_foretell_27 (by decide) ?_
      refine lv_bipush (v := 40) hx hb dX10_foretell_29 (by decide) ?_
      refine m_callP (n := 3) (As := [.int b, .int (-20), .int 40]) (rest := [.ref (ad 0)]) (st1 := .int (fIn b (-20) 40) :: [.ref (ad 0)]) S.1 (c_X10_isIn b (-20) 40) gX10_foretell_X10_isIn rfl (by decide +kernel) ⟨Nat.le_of_ble_eq_true rfl, Nat.le_of_ble_eq_true rfl⟩ rfl hl.1 rfl (Nat.le_of_ble_eq_true rfl) dX10_foretell_31 ⟨Nat.zero_le _, Nat.zero_le _⟩ rfl ?_
      refine lv_if_eq (tgt := 42) hx hb dX10_foretell_34 (by decide) (fun c34 => ?_) (fun c34 => ?_)
      ·
        refine lv_iconst (v := 2) hx hb dX10_foretell_42 (by decide) ?_
        refine lv_goto (tgt := 47) hx hb dX10_foretell_43 (by decide) ?_
        refine m_pi S hG hL 0 rfl (hts (.fieldLink RX10 180 "SwarmLineModel" "thrown" "I") (by decide +kernel)) dX10_foretell_47 (fun H locs hG hL => ?_)
        refine lv_aload_n hx hb dX10_foretell_50 rfl (lv_at hl 0 rfl) ?_
        refine m_gi (v := 2) S hG 0 rfl (hts (.fieldLink RX10 180 "SwarmLineModel" "thrown" "I") (by decide +kernel)) dX10_foretell_51 rfl ?_
        refine lv_if_le (tgt := 58) hx hb dX10_foretell_54 (by decide) (fun c => absurd c (by decide)) (fun _ => ?_)
        exact m_vret S hr hlocks hG hL dX10_foretell_57 (by simp only [kFo, rFo, eq_false c8, eq_false c23, eq_true c34, il1, il2, il3, ↓reduceIte]) (by simp only [kFo, rFo, eq_false c8, eq_false c23, eq_true c34, il1, il2, il3, ↓reduceIte])
      ·
        refine lv_iload_n hx hb dX10_foretell_37 rfl (lv_at hl 2 rfl) ?_
        refine lv_iload_n hx hb dX10_foretell_38 rfl (lv_at hl 3 rfl) ?_
        refine lv_icmp_le (tgt := 46) hx hb dX10_foretell_39 (by decide) (fun c39 => ?_) (fun c39 => ?_)
        ·
          refine lv_iconst (v := 0) hx hb dX10_foretell_46 (by decide) ?_
          refine m_pi S hG hL 0 rfl (hts (.fieldLink RX10 180 "SwarmLineModel" "thrown" "I") (by decide +kernel)) dX10_foretell_47 (fun H locs hG hL => ?_)
          refine lv_aload_n hx hb dX10_foretell_50 rfl (lv_at hl 0 rfl) ?_
          refine m_gi (v := 0) S hG 0 rfl (hts (.fieldLink RX10 180 "SwarmLineModel" "thrown" "I") (by decide +kernel)) dX10_foretell_51 rfl ?_
          refine lv_if_le (tgt := 58) hx hb dX10_foretell_54 (by decide) (fun _ => ?_) (fun c => absurd c (by decide))
          refine lv_aload_n hx hb dX10_foretell_58 rfl (lv_at hl 0 rfl) ?_
          refine m_ga S hG 4 rfl (hts (.fieldLink RX10 16 "SwarmLineModel" "foreLeast" "[I") (by decide +kernel)) dX10_foretell_59 ?_
          refine lv_iload_n hx hb dX10_foretell_62 rfl (lv_at hl 1 rfl) ?_
          refine lv_iload_n hx hb dX10_foretell_63 rfl (lv_at hl 2 rfl) ?_
          refine m_st S hG hL 4 rfl (show vp_in day 31 from fIn_in c8 (by decide)) dX10_foretell_64 (fun H locs hG hL => ?_)
          refine lv_aload_n hx hb dX10_foretell_65 rfl (lv_at hl 0 rfl) ?_
          refine m_ga S hG 5 rfl (hts (.fieldLink RX10 19 "SwarmLineModel" "foreMost" "[I") (by decide +kernel)) dX10_foretell_66 ?_
          refine lv_iload_n hx hb dX10_foretell_69 rfl (lv_at hl 1 rfl) ?_
          refine lv_iload_n hx hb dX10_foretell_70 rfl (lv_at hl 3 rfl) ?_
          refine m_st S hG hL 5 rfl (show vp_in day 31 from fIn_in c8 (by decide)) dX10_foretell_71 (fun H locs hG hL => ?_)
          exact m_vret S hr hlocks hG hL dX10_foretell_72 (by simp only [kFo, rFo, eq_false c8, eq_false c23, eq_false c34, eq_true c39, il1, il2, il3, ↓reduceIte]) (by simp only [kFo, rFo, eq_false c8, eq_false c23, eq_false c34, eq_true c39, il1, il2, il3, ↓reduceIte])
        ·
          refine lv_iconst (v := 2) hx hb dX10_foretell_42 (by decide) ?_
          refine lv_goto (tgt := 47) hx hb dX10_foretell_43 (by decide) ?_
          refine m_pi S hG hL 0 rfl (hts (.fieldLink RX10 180 "SwarmLineModel" "thrown" "I") (by decide +kernel)) dX10_foretell_47 (fun H locs hG hL => ?_)
          refine lv_aload_n hx hb dX10_foretell_50 rfl (lv_at hl 0 rfl) ?_
          refine m_gi (v := 2) S hG 0 rfl (hts (.fieldLink RX10 180 "SwarmLineModel" "thrown" "I") (by decide +kernel)) dX10_foretell_51 rfl ?_
          refine lv_if_le (tgt := 58) hx hb dX10_foretell_54 (by decide) (fun c => absurd c (by decide)) (fun _ => ?_)
          exact m_vret S hr hlocks hG hL dX10_foretell_57 (by simp only [kFo, rFo, eq_false c8, eq_false c23, eq_false c34, eq_false c39, il1, il2, il3, ↓reduceIte]) (by simp only [kFo, rFo, eq_false c8, eq_false c23, eq_false c34, eq_false c39, il1, il2, il3, ↓reduceIte])
  ·
    refine lv_iconst (v := 1) hx hb dX10_foretell_11 (by decide) ?_
    refine lv_goto (tgt := 47) hx hb dX10_foretell_12 (by decide) ?_
    refine m_pi S hG hL 0 rfl (hts (.fieldLink RX10 180 "SwarmLineModel" "thrown" "I") (by decide +kernel)) dX10_foretell_47 (fun H locs hG hL => ?_)
    refine lv_aload_n hx hb dX10_foretell_50 rfl (lv_at hl 0 rfl) ?_
    refine m_gi (v := 1) S hG 0 rfl (hts (.fieldLink RX10 180 "SwarmLineModel" "thrown" "I") (by decide +kernel)) dX10_foretell_51 rfl ?_
    refine lv_if_le (tgt := 58) hx hb dX10_foretell_54 (by decide) (fun c => absurd c (by decide)) (fun _ => ?_)
    exact m_vret S hr hlocks hG hL dX10_foretell_57 (by simp only [kFo, rFo, eq_true c8, il1, il2, il3, ↓reduceIte]) (by simp only [kFo, rFo, eq_true c8, il1, il2, il3, ↓reduceIte])
set_option maxHeartbeats 4000000 in
set_option maxRecDepth 100000 in
theorem c_X10_hive {l : Launch} {D : va_G} {cI cZ cB cO cR cJ : ClassId} {Hb : Heap} {lv : Nat → Prop} {ad : Nat → Nat} {ce0 : Nat → va_E} (hlv : lM lv) (x : Int32) (y : Int32) (b : Int32) (ro : Int32) (mk : Int32) (s : Nat → Int32) (r : Nat → Nat → Int32) (h0 : 0 ≤ (s 6).toInt) (h1 : (s 6).toInt ≤ 20) : mMet l D cI cZ cB cO cR cJ Hb lv ad ce0 yX10_hive wsX10_hive 1 22 [.ref (ad 0), .int x, .int y, .int b, .int ro, .int mk] s r (some (.int (vHi x y b ro mk s))) (sHi x y b ro mk s) (rHi x y b ro mk s r) := by
  refine Met.ofW (cc := cX10_hive) (maxL := 7) (ret := (some .int)) (by decide) rfl ?_
  intro p0 e0 s0 m0 args below meth c0 s₁ B hml hv
  obtain ⟨rfl, hG, hK⟩ := hv
  have hx := B.exec
  have hb := B.bytes
  have hr := B.returns
  have hts := atoms_spec (ws := wsX10_hive) B.pre
  have hown : s0.vm.findClass RX10 = some m0.cls := findClass_of_methodNamed B.named
  have hlocks := B.notSynchronized
  have S : mX p0 m0 c0 cX10_hive 7 s0 _ wsX10_hive D cI cZ cB cO cR cJ lv := ⟨⟨hx, hb, hml, hown, hts⟩, hK, fun w h => List.mem_cons_of_mem _ (List.mem_append_right _ h), hlv⟩
  have hL : gL Hb [] := gL.nil
  have hl := lv_entry ([.ref (ad 0), .int x, .int y, .int b, .int ro, .int mk]) (n := 7) (Nat.le_of_ble_eq_true rfl)
  rw [lg_entry_eq]
  generalize (lg_sl ([.ref (ad 0), .int x, .int y, .int b, .int ro, .int mk]) ++ List.replicate (7 - (lg_sl ([.ref (ad 0), .int x, .int y, .int b, .int ro, .int mk])).length) Slot.unset).toArray = ls at hl ⊢
  have hl : lv_has ls 7 [(0, .ref (ad 0)), (1, .int x), (2, .int y), (3, .int b), (4, .int ro), (5, .int mk)] := hl
  refine lv_iload_n hx hb dX10_hive_0 rfl (lv_at hl 1 rfl) ?_
  refine lv_iconst (v := 0) hx hb dX10_hive_1 (by decide) ?_
  refine lv_bipush (v := 19) hx hb dX10_hive_2 (by decide) ?_
  refine m_callP (n := 3) (As := [.int x, .int 0, .int 19]) (rest := []) (st1 := .int (fIn x 0 19) :: []) S.1 (c_X10_isIn x 0 19) gX10_hive_X10_isIn rfl (by decide +kernel) ⟨Nat.le_of_ble_eq_true rfl, Nat.le_of_ble_eq_true rfl⟩ rfl hl.1 rfl (Nat.le_of_ble_eq_true rfl) dX10_hive_4 ⟨Nat.zero_le _, Nat.zero_le _⟩ rfl ?_
  refine lv_if_eq (tgt := 58) hx hb dX10_hive_7 (by decide) (fun c7 => ?_) (fun c7 => ?_)
  ·
    refine lv_iconst (v := 0) hx hb dX10_hive_58 (by decide) ?_
    refine lv_istore (lv' := [(6, .int 0), (0, .ref (ad 0)), (1, .int x), (2, .int y), (3, .int b), (4, .int ro), (5, .int mk)]) hx hb dX10_hive_59 hl (by decide) rfl (fun ls hl => ?_)
    refine lv_aload_n hx hb dX10_hive_61 rfl (lv_at hl 1 rfl) ?_
    refine lv_iload hx hb dX10_hive_62 (lv_at hl 0 rfl) ?_
    refine lv_if_ne (tgt := 71) hx hb dX10_hive_64 (by decide) (fun c => absurd c (by decide)) (fun _ => ?_)
    refine lv_iconst (v := 1) hx hb dX10_hive_67 (by decide) ?_
    refine lv_goto (tgt := 85) hx hb dX10_hive_68 (by decide) ?_
    refine m_pi S hG hL 0 rfl (hts (.fieldLink RX10 180 "SwarmLineModel" "thrown" "I") (by decide +kernel)) dX10_hive_85 (fun H locs hG hL => ?_)
    refine lv_aload_n hx hb dX10_hive_88 rfl (lv_at hl 1 rfl) ?_
    refine m_gi (v := 1) S hG 0 rfl (hts (.fieldLink RX10 180 "SwarmLineModel" "thrown" "I") (by decide +kernel)) dX10_hive_89 rfl ?_
    refine lv_if_le (tgt := 97) hx hb dX10_hive_92 (by decide) (fun c => absurd c (by decide)) (fun _ => ?_)
    refine lv_iconst (v := 0) hx hb dX10_hive_95 (by decide) ?_
    exact m_iret S hr hlocks hG hL dX10_hive_96 (by simp only [kHi, vHi, sHi, rHi, eq_true c7, il1, il2, il3, ↓reduceIte]) (by simp only [kHi, vHi, sHi, rHi, eq_true c7, il1, il2, il3, ↓reduceIte]) (by simp only [kHi, vHi, sHi, rHi, eq_true c7, il1, il2, il3, ↓reduceIte])
  ·
    refine lv_iload_n hx hb dX10_hive_10 rfl (lv_at hl 2 rfl) ?_
    refine lv_iconst (v := 0) hx hb dX10_hive_11 (by decide) ?_
    refine lv_bipush (v := 19) hx hb dX10_hive_12 (by decide) ?_
    refine m_callP (n := 3) (As := [.int y, .int 0, .int 19]) (rest := []) (st1 := .int (fIn y 0 19) :: []) S.1 (c_X10_isIn y 0 19) gX10_hive_X10_isIn rfl (by decide +kernel) ⟨Nat.le_of_ble_eq_true rfl, Nat.le_of_ble_eq_true rfl⟩ rfl hl.1 rfl (Nat.le_of_ble_eq_true rfl) dX10_hive_14 ⟨Nat.zero_le _, Nat.zero_le _⟩ rfl ?_
    refine lv_if_eq (tgt := 58) hx hb dX10_hive_17 (by decide) (fun c17 => ?_) (fun c17 => ?_)
    ·
      refine lv_iconst (v := 0) hx hb dX10_hive_58 (by decide) ?_
      refine lv_istore (lv' := [(6, .int 0), (0, .ref (ad 0)), (1, .int x), (2, .int y), (3, .int b), (4, .int ro), (5, .int mk)]) hx hb dX10_hive_59 hl (by decide) rfl (fun ls hl => ?_)
      refine lv_aload_n hx hb dX10_hive_61 rfl (lv_at hl 1 rfl) ?_
      refine lv_iload hx hb dX10_hive_62 (lv_at hl 0 rfl) ?_
      refine lv_if_ne (tgt := 71) hx hb dX10_hive_64 (by decide) (fun c => absurd c (by decide)) (fun _ => ?_)
      refine lv_iconst (v := 1) hx hb dX10_hive_67 (by decide) ?_
      refine lv_goto (tgt := 85) hx hb dX10_hive_68 (by decide) ?_
      refine m_pi S hG hL 0 rfl (hts (.fieldLink RX10 180 "SwarmLineModel" "thrown" "I") (by decide +kernel)) dX10_hive_85 (fun H locs hG hL => ?_)
      refine lv_aload_n hx hb dX10_hive_88 rfl (lv_at hl 1 rfl) ?_
      refine m_gi (v := 1) S hG 0 rfl (hts (.fieldLink RX10 180 "SwarmLineModel" "thrown" "I") (by decide +kernel)) dX10_hive_89 rfl ?_
      refine lv_if_le (tgt := 97) hx hb dX10_hive_92 (by decide) (fun c => absurd c (by decide)) (fun _ => ?_)
      refine lv_iconst (v := 0) hx hb dX10_hive_95 (by decide) ?_
      exact m_iret S hr hlocks hG hL dX10_hive_96 (by simp only [kHi, vHi, sHi, rHi, eq_false c7, eq_true c17, il1, il2, il3, ↓reduceIte]) (by simp only [kHi, vHi, sHi, rHi, eq_false c7, eq_true c17, il1, il2, il3, ↓reduceIte]) (by simp only [kHi, vHi, sHi, rHi, eq_false c7, eq_true c17, il1, il2, il3, ↓reduceIte])
    ·
      refine lv_iload_n hx hb dX10_hive_20 rfl (lv_at hl 3 rfl) ?_
      refine lv_iconst (v := 0) hx hb dX10_hive_21 (by decide) ?_
      refine lv_ldc (v := 100000) hx hb hown (hts (.constant RX10 209 100000) (by decide +kernel)) dX10_hive_22 ?_
      refine m_callP (n := 3) (As := [.int b, .int 0, .int 100000]) (rest := []) (st1 := .int (fIn b 0 100000) :: []) S.1 (c_X10_isIn b 0 100000) gX10_hive_X10_isIn rfl (by decide +kernel) ⟨Nat.le_of_ble_eq_true rfl, Nat.le_of_ble_eq_true rfl⟩ rfl hl.1 rfl (Nat.le_of_ble_eq_true rfl) dX10_hive_24 ⟨Nat.zero_le _, Nat.zero_le _⟩ rfl ?_
      refine lv_if_eq (tgt := 58) hx hb dX10_hive_27 (by decide) (fun c27 => ?_) (fun c27 => ?_)
      ·
        refine lv_iconst (v := 0) hx hb dX10_hive_58 (by decide) ?_
        refine lv_istore (lv' := [(6, .int 0), (0, .ref (ad 0)), (1, .int x), (2, .int y), (3, .int b), (4, .int ro), (5, .int mk)]) hx hb dX10_hive_59 hl (by decide) rfl (fun ls hl => ?_)
        refine lv_aload_n hx hb dX10_hive_61 rfl (lv_at hl 1 rfl) ?_
        refine lv_iload hx hb dX10_hive_62 (lv_at hl 0 rfl) ?_
        refine lv_if_ne (tgt := 71) hx hb dX10_hive_64 (by decide) (fun c => absurd c (by decide)) (fun _ => ?_)
        refine lv_iconst (v := 1) hx hb dX10_hive_67 (by decide) ?_
        refine lv_goto (tgt := 85) hx hb dX10_hive_68 (by decide) ?_
        refine m_pi S hG hL 0 rfl (hts (.fieldLink RX10 180 "SwarmLineModel" "thrown" "I") (by decide +kernel)) dX10_hive_85 (fun H locs hG hL => ?_)
        refine lv_aload_n hx hb dX10_hive_88 rfl (lv_at hl 1 rfl) ?_
        refine m_gi (v := 1) S hG 0 rfl (hts (.fieldLink RX10 180 "SwarmLineModel" "thrown" "I") (by decide +kernel)) dX10_hive_89 rfl ?_
        refine lv_if_le (tgt := 97) hx hb dX10_hive_92 (by decide) (fun c => absurd c (by decide)) (fun _ => ?_)
        refine lv_iconst (v := 0) hx hb dX10_hive_95 (by decide) ?_
        exact m_iret S hr hlocks hG hL dX10_hive_96 (by simp only [kHi, vHi, sHi, rHi, eq_false c7, eq_false c17, eq_true c27, il1, il2, il3, ↓reduceIte]) (by simp only [kHi, vHi, sHi, rHi, eq_false c7, eq_false c17, eq_true c27, il1, il2, il3, ↓reduceIte]) (by simp only [kHi, vHi, sHi, rHi, eq_false c7, eq_false c17, eq_true c27, il1, il2, il3, ↓reduceIte])
      ·
        refine lv_iload hx hb dX10_hive_30 (lv_at hl 4 rfl) ?_
        refine lv_sipush (v := 1000) hx hb dX10_hive_32 (by decide) ?_
        refine lv_ldc (v := 100000) hx hb hown (hts (.constant RX10 209 100000) (by decide +kernel)) dX10_hive_35 ?_
        refine m_callP (n := 3) (As := [.int ro, .int 1000, .int 100000]) (rest := []) (st1 := .int (fIn ro 1000 100000) :: []) S.1 (c_X10_isIn ro 1000 100000) gX10_hive_X10_isIn rfl (by decide +kernel) ⟨Nat.le_of_ble_eq_true rfl, Nat.le_of_ble_eq_true rfl⟩ rfl hl.1 rfl (Nat.le_of_ble_eq_true rfl) dX10_hive_37 ⟨Nat.zero_le _, Nat.zero_le _⟩ rfl ?_
        refine lv_if_eq (tgt := 58) hx hb dX10_hive_40 (by decide) (fun c40 => ?_) (fun c40 => ?_)
        ·
          refine lv_iconst (v := 0) hx hb dX10_hive_58 (by decide) ?_
          refine lv_istore (lv' := [(6, .int 0), (0, .ref (ad 0)), (1, .int x), (2, .int y), (3, .int b), (4, .int ro), (5, .int mk)]) hx hb dX10_hive_59 hl (by decide) rfl (fun ls hl => ?_)
          refine lv_aload_n hx hb dX10_hive_61 rfl (lv_at hl 1 rfl) ?_
          refine lv_iload hx hb dX10_hive_62 (lv_at hl 0 rfl) ?_
          refine lv_if_ne (tgt := 71) hx hb dX10_hive_64 (by decide) (fun c => absurd c (by decide)) (fun _ => ?_)
          refine lv_iconst (v := 1) hx hb dX10_hive_67 (by decide) ?_
          refine lv_goto (tgt := 85) hx hb dX10_hive_68 (by decide) ?_
          refine m_pi S hG hL 0 rfl (hts (.fieldLink RX10 180 "SwarmLineModel" "thrown" "I") (by decide +kernel)) dX10_hive_85 (fun H locs hG hL => ?_)
          refine lv_aload_n hx hb dX10_hive_88 rfl (lv_at hl 1 rfl) ?_
          refine m_gi (v := 1) S hG 0 rfl (hts (.fieldLink RX10 180 "SwarmLineModel" "thrown" "I") (by decide +kernel)) dX10_hive_89 rfl ?_
          refine lv_if_le (tgt := 97) hx hb dX10_hive_92 (by decide) (fun c => absurd c (by decide)) (fun _ => ?_)
          refine lv_iconst (v := 0) hx hb dX10_hive_95 (by decide) ?_
          exact m_iret S hr hlocks hG hL dX10_hive_96 (by simp only [kHi, vHi, sHi, rHi, eq_false c7, eq_false c17, eq_false c27, eq_true c40, il1, il2, il3, ↓reduceIte]) (by simp only [kHi, vHi, sHi, rHi, eq_false c7, eq_false c17, eq_false c27, eq_true c40, il1, il2, il3, ↓reduceIte]) (by simp only [kHi, vHi, sHi, rHi, eq_false c7, eq_false c17, eq_false c27, eq_true c40, il1, il2, il3, ↓reduceIte])
        ·
          refine lv_iload hx hb dX10_hive_43 (lv_at hl 5 rfl) ?_
          refine lv_iconst (v := 0) hx hb dX10_hive_45 (by decide) ?_
          refine lv_bipush (v := 7) hx hb dX10_hive_46 (by decide) ?_
          refine m_callP (n := 3) (As := [.int mk, .int 0, .int 7]) (rest := []) (st1 := .int (fIn mk 0 7) :: []) S.1 (c_X10_isIn mk 0 7) gX10_hive_X10_isIn rfl (by decide +kernel) ⟨Nat.le_of_ble_eq_true rfl, Nat.le_of_ble_eq_true rfl⟩ rfl hl.1 rfl (Nat.le_of_ble_eq_true rfl) dX10_hive_48 ⟨Nat.zero_le _, Nat.zero_le _⟩ rfl ?_
          refine lv_if_eq (tgt := 58) hx hb dX10_hive_51 (by decide) (fun c51 => ?_) (fun c51 => ?_)
          ·
            refine lv_iconst (v := 0) hx hb dX10_hive_58 (by decide) ?_
            refine lv_istore (lv' := [(6, .int 0), (0, .ref (ad 0)), (1, .int x), (2, .int y), (3, .int b), (4, .int ro), (5, .int mk)]) hx hb dX10_hive_59 hl (by decide) rfl (fun ls hl => ?_)
            refine lv_aload_n hx hb dX10_hive_61 rfl (lv_at hl 1 rfl) ?_
            refine lv_iload hx hb dX10_hive_62 (lv_at hl 0 rfl) ?_
            refine lv_if_ne (tgt := 71) hx hb dX10_hive_64 (by decide) (fun c => absurd c (by decide)) (fun _ => ?_)
            refine lv_iconst (v := 1) hx hb dX10_hive_67 (by decide) ?_
            refine lv_goto (tgt := 85) hx hb dX10_hive_68 (by decide) ?_
            refine m_pi S hG hL 0 rfl (hts (.fieldLink RX10 180 "SwarmLineModel" "thrown" "I") (by decide +kernel)) dX10_hive_85 (fun H locs hG hL => ?_)
            refine lv_aload_n hx hb dX10_hive_88 rfl (lv_at hl 1 rfl) ?_
            refine m_gi (v := 1) S hG 0 rfl (hts (.fieldLink RX10 180 "SwarmLineModel" "thrown" "I") (by decide +kernel)) dX10_hive_89 rfl ?_
            refine lv_if_le (tgt := 97) hx hb dX10_hive_92 (by decide) (fun c => absurd c (by decide)) (fun _ => ?_)
            refine lv_iconst (v := 0) hx hb dX10_hive_95 (by decide) ?_
            exact m_iret S hr hlocks hG hL dX10_hive_96 (by simp only [kHi, vHi, sHi, rHi, eq_false c7, eq_false c17, eq_false c27, eq_false c40, eq_true c51, il1, il2, il3, ↓reduceIte]) (by simp only [kHi, vHi, sHi, rHi, eq_false c7, eq_false c17, eq_false c27, eq_false c40, eq_true c51, il1, il2, il3, ↓reduceIte]) (by simp only [kHi, vHi, sHi, rHi, eq_false c7, eq_false c17, eq_false c27, eq_false c40, eq_true c51, il1, il2, il3, ↓reduceIte])
          ·
            refine lv_iconst (v := 1) hx hb dX10_hive_54 (by decide) ?_
            refine lv_goto (tgt := 59) hx hb dX10_hive_55 (by decide) ?_
            refine lv_istore (lv' := [(6, .int 1), (0, .ref (ad 0)), (1, .int x), (2, .int y), (3, .int b), (4, .int ro), (5, .int mk)]) hx hb dX10_hive_59 hl (by decide) rfl (fun ls hl => ?_)
            refine lv_aload_n hx hb dX10_hive_61 rfl (lv_at hl 1 rfl) ?_
            refine lv_iload hx hb dX10_hive_62 (lv_at hl 0 rfl) ?_
            refine lv_if_ne (tgt := 71) hx hb dX10_hive_64 (by decide) (fun _ => ?_) (fun c => absurd c (by decide))
            refine lv_aload_n hx hb dX10_hive_71 rfl (lv_at hl 1 rfl) ?_
            refine m_gi (v := s 6) S hG 6 rfl (hts (.fieldLink RX10 183 "SwarmLineModel" "hives" "I") (by decide +kernel)) dX10_hive_72 rfl ?_
            refine lv_bipush (v := 20) hx hb dX10_hive_75 (by decide) ?_
            refine lv_icmp_ne (tgt := 84) hx hb dX10_hive_77 (by decide) (fun c77 => ?_) (fun c77 => ?_)
            ·
              refine lv_iconst (v := 0) hx hb dX10_hive_84 (by decide) ?_
              refine m_pi S hG hL 0 rfl (hts (.fieldLink RX10 180 "SwarmLineModel" "thrown" "I") (by decide +kernel)) dX10_hive_85 (fun H locs hG hL => ?_)
              refine lv_aload_n hx hb dX10_hive_88 rfl (lv_at hl 1 rfl) ?_
              refine m_gi (v := 0) S hG 0 rfl (hts (.fieldLink RX10 180 "SwarmLineModel" "thrown" "I") (by decide +kernel)) dX10_hive_89 rfl ?_
              refine lv_if_le (tgt := 97) hx hb dX10_hive_92 (by decide) (fun _ => ?_) (fun c => absurd c (by decide))
              refine lv_aload_n hx hb dX10_hive_97 rfl (lv_at hl 1 rfl) ?_
              refine m_ga S hG 7 rfl (hts (.fieldLink RX10 22 "SwarmLineModel" "hiveX" "[I") (by decide +kernel)) dX10_hive_98 ?_
              refine lv_aload_n hx hb dX10_hive_101 rfl (lv_at hl 1 rfl) ?_
              refine m_gi (v := s 6) S hG 6 rfl (hts (.fieldLink RX10 183 "SwarmLineModel" "hives" "I") (by decide +kernel)) dX10_hive_102 rfl ?_
              refine lv_iload_n hx hb dX10_hive_105 rfl (lv_at hl 2 rfl) ?_
              refine m_st S hG hL 7 rfl (show vp_in (s 6) 20 from tq_ne rfl h0 h1 c77) dX10_hive_106 (fun H locs hG hL => ?_)
              refine lv_aload_n hx hb dX10_hive_107 rfl (lv_at hl 1 rfl) ?_
              refine m_ga S hG 8 rfl (hts (.fieldLink RX10 25 "SwarmLineModel" "hiveY" "[I") (by decide +kernel)) dX10_hive_108 ?_
              refine lv_aload_n hx hb dX10_hive_111 rfl (lv_at hl 1 rfl) ?_
              refine m_gi (v := s 6) S hG 6 rfl (hts (.fieldLink RX10 183 "SwarmLineModel" "hives" "I") (by decide +kernel)) dX10_hive_112 rfl ?_
              refine lv_iload_n hx hb dX10_hive_115 rfl (lv_at hl 3 rfl) ?_
              refine m_st S hG hL 8 rfl (show vp_in (s 6) 20 from tq_ne rfl h0 h1 c77) dX10_hive_116 (fun H locs hG hL => ?_)
              refine lv_aload_n hx hb dX10_hive_117 rfl (lv_at hl 1 rfl) ?_
              refine m_ga S hG 9 rfl (hts (.fieldLink RX10 28 "SwarmLineModel" "hiveBees" "[I") (by decide +kernel)) dX10_hive_118 ?_
              refine lv_aload_n hx hb dX10_hive_121 rfl (lv_at hl 1 rfl) ?_
              refine m_gi (v := s 6) S hG 6 rfl (hts (.fieldLink RX10 183 "SwarmLineModel" "hives" "I") (by decide +kernel)) dX10_hive_122 rfl ?_
              refine lv_iload_n hx hb dX10_hive_125 rfl (lv_at hl 4 rfl) ?_
              refine m_st S hG hL 9 rfl (show vp_in (s 6) 20 from tq_ne rfl h0 h1 c77) dX10_hive_126 (fun H locs hG hL => ?_)
              refine lv_aload_n hx hb dX10_hive_127 rfl (lv_at hl 1 rfl) ?_
              refine m_ga S hG 10 rfl (hts (.fieldLink RX10 31 "SwarmLineModel" "hiveRoom" "[I") (by decide +kernel)) dX10_hive_128 ?_
              refine lv_aload_n hx hb dX10_hive_131 rfl (lv_at hl 1 rfl) ?_
              refine m_gi (v := s 6) S hG 6 rfl (hts (.fieldLink RX10 183 "SwarmLineModel" "hives" "I") (by decide +kernel)) dX10_hive_132 rfl ?_
              refine lv_iload hx hb dX10_hive_135 (lv_at hl 5 rfl) ?_
              refine m_st S hG hL 10 rfl (show vp_in (s 6) 20 from tq_ne rfl h0 h1 c77) dX10_hive_137 (fun H locs hG hL => ?_)
              refine lv_aload_n hx hb dX10_hive_138 rfl (lv_at hl 1 rfl) ?_
              refine m_ga S hG 11 rfl (hts (.fieldLink RX10 34 "SwarmLineModel" "hiveMark" "[I") (by decide +kernel)) dX10_hive_139 ?_
              refine lv_aload_n hx hb dX10_hive_142 rfl (lv_at hl 1 rfl) ?_
              refine m_gi (v := s 6) S hG 6 rfl (hts (.fieldLink RX10 183 "SwarmLineModel" "hives" "I") (by decide +kernel)) dX10_hive_143 rfl ?_
              refine lv_iload hx hb dX10_hive_146 (lv_at hl 6 rfl) ?_
              refine m_st S hG hL 11 rfl (show vp_in (s 6) 20 from tq_ne rfl h0 h1 c77) dX10_hive_148 (fun H locs hG hL => ?_)
              refine lv_aload_n hx hb dX10_hive_149 rfl (lv_at hl 1 rfl) ?_
              refine m_ga S hG 12 rfl (hts (.fieldLink RX10 37 "SwarmLineModel" "hiveWarm" "[I") (by decide +kernel)) dX10_hive_150 ?_
              refine lv_aload_n hx hb dX10_hive_153 rfl (lv_at hl 1 rfl) ?_
              refine m_gi (v := s 6) S hG 6 rfl (hts (.fieldLink RX10 183 "SwarmLineModel" "hives" "I") (by decide +kernel)) dX10_hive_154 rfl ?_
              refine lv_iconst (v := 0) hx hb dX10_hive_157 (by decide) ?_
              refine m_st S hG hL 12 rfl (show vp_in (s 6) 20 from tq_ne rfl h0 h1 c77) dX10_hive_158 (fun H locs hG hL => ?_)
              refine lv_aload_n hx hb dX10_hive_159 rfl (lv_at hl 1 rfl) ?_
              refine m_ga S hG 13 rfl (hts (.fieldLink RX10 40 "SwarmLineModel" "hiveLast" "[I") (by decide +kernel)) dX10_hive_160 ?_
              refine lv_aload_n hx hb dX10_hive_163 rfl (lv_at hl 1 rfl) ?_
              refine m_gi (v := s 6) S hG 6 rfl (hts (.fieldLink RX10 183 "SwarmLineModel" "hives" "I") (by decide +kernel)) dX10_hive_164 rfl ?_
              refine lv_iconst (v := (-1)) hx hb dX10_hive_167 (by decide) ?_
              refine m_st S hG hL 13 rfl (show vp_in (s 6) 20 from tq_ne rfl h0 h1 c77) dX10_hive_168 (fun H locs hG hL => ?_)
              refine lv_aload_n hx hb dX10_hive_169 rfl (lv_at hl 1 rfl) ?_
              refine lv_dup hx hb dX10_hive_170 rfl ?_
              refine m_gi (v := s 6) S hG 6 rfl (hts (.fieldLink RX10 183 "SwarmLineModel" "hives" "I") (by decide +kernel)) dX10_hive_171 rfl ?_
              refine lv_iconst (v := 1) hx hb dX10_hive_174 (by decide) ?_
              refine lv_iadd hx hb dX10_hive_175 ?_
              refine m_pi S hG hL 6 rfl (hts (.fieldLink RX10 183 "SwarmLineModel" "hives" "I") (by decide +kernel)) dX10_hive_176 (fun H locs hG hL => ?_)
              refine lv_aload_n hx hb dX10_hive_179 rfl (lv_at hl 1 rfl) ?_
              refine m_gi (v := (s 6) + 1) S hG 6 rfl (hts (.fieldLink RX10 183 "SwarmLineModel" "hives" "I") (by decide +kernel)) dX10_hive_180 rfl ?_
              refine lv_iconst (v := 1) hx hb dX10_hive_183 (by decide) ?_
              refine lv_isub hx hb dX10_hive_184 ?_
              exact m_iret S hr hlocks hG hL dX10_hive_185 (by simp only [kHi, vHi, sHi, rHi, eq_false c7, eq_false c17, eq_false c27, eq_false c40, eq_false c51, eq_false c77, il1, il2, il3, ↓reduceIte]) (by simp only [kHi, vHi, sHi, rHi, eq_false c7, eq_false c17, eq_false c27, eq_false c40, eq_false c51, eq_false c77, il1, il2, il3, ↓reduceIte]) (by simp only [kHi, vHi, sHi, rHi, eq_false c7, eq_false c17, eq_false c27, eq_false c40, eq_false c51, eq_false c77, il1, il2, il3, ↓reduceIte])
            ·
              refine lv_iconst (v := 2) hx hb dX10_hive_80 (by decide) ?_
              refine lv_goto (tgt := 85) hx hb dX10_hive_81 (by decide) ?_
              refine m_pi S hG hL 0 rfl (hts (.fieldLink RX10 180 "SwarmLineModel" "thrown" "I") (by decide +kernel)) dX10_hive_85 (fun H locs hG hL => ?_)
              refine lv_aload_n hx hb dX10_hive_88 rfl (lv_at hl 1 rfl) ?_
              refine m_gi (v := 2) S hG 0 rfl (hts (.fieldLink RX10 180 "SwarmLineModel" "thrown" "I") (by decide +kernel)) dX10_hive_89 rfl ?_
              refine lv_if_le (tgt := 97) hx hb dX10_hive_92 (by decide) (fun c => absurd c (by decide)) (fun _ => ?_)
              refine lv_iconst (v := 0) hx hb dX10_hive_95 (by decide) ?_
              exact m_iret S hr hlocks hG hL dX10_hive_96 (by simp only [kHi, vHi, sHi, rHi, eq_false c7, eq_false c17, eq_false c27, eq_false c40, eq_false c51, eq_true c77, il1, il2, il3, ↓reduceIte]) (by simp only [kHi, vHi, sHi, rHi, eq_false c7, eq_false c17, eq_false c27, eq_false c40, eq_false c51, eq_true c77, il1, il2, il3, ↓reduceIte]) (by simp only [kHi, vHi, sHi, rHi, eq_false c7, eq_false c17, eq_false c27, eq_false c40, eq_false c51, eq_true c77, il1, il2, il3, ↓reduceIte])
set_option maxHeartbeats 4000000 in
set_option maxRecDepth 100000 in
theorem c_X10_keeper {l : Launch} {D : va_G} {cI cZ cB cO cR cJ : ClassId} {Hb : Heap} {lv : Nat → Prop} {ad : Nat → Nat} {ce0 : Nat → va_E} (hlv : lM lv) (x : Int32) (y : Int32) (b : Int32) (la : Int32) (pa : Int32) (fr : Int32) (to : Int32) (s : Nat → Int32) (r : Nat → Nat → Int32) (h0 : 0 ≤ (s 26).toInt) (h1 : (s 26).toInt ≤ 12) : mMet l D cI cZ cB cO cR cJ Hb lv ad ce0 yX10_keeper wsX10_keeper 1 22 [.ref (ad 0), .int x, .int y, .int b, .int la, .int pa, .int fr, .int to] s r (some (.int (vKe x y b la pa fr to s))) (sKe x y b la pa fr to s) (rKe x y b la pa fr to s r) := by
  refine Met.ofW (cc := cX10_keeper) (maxL := 10) (ret := (some .int)) (by decide) rfl ?_
  intro p0 e0 s0 m0 args below meth c0 s₁ B hml hv
  obtain ⟨rfl, hG, hK⟩ := hv
  have hx := B.exec
  have hb := B.bytes
  have hr := B.returns
  have hts := atoms_spec (ws := wsX10_keeper) B.pre
  have hown : s0.vm.findClass RX10 = some m0.cls := findClass_of_methodNamed B.named
  have hlocks := B.notSynchronized
  have S : mX p0 m0 c0 cX10_keeper 10 s0 _ wsX10_keeper D cI cZ cB cO cR cJ lv := ⟨⟨hx, hb, hml, hown, hts⟩, hK, fun w h => List.mem_cons_of_mem _ (List.mem_append_right _ h), hlv⟩
  have hL : gL Hb [] := gL.nil
  have hl := lv_entry ([.ref (ad 0), .int x, .int y, .int b, .int la, .int pa, .int fr, .int to]) (n := 10) (Nat.le_of_ble_eq_true rfl)
  rw [lg_entry_eq]
  generalize (lg_sl ([.ref (ad 0), .int x, .int y, .int b, .int la, .int pa, .int fr, .int to]) ++ List.replicate (10 - (lg_sl ([.ref (ad 0), .int x, .int y, .int b, .int la, .int pa, .int fr, .int to])).length) Slot.unset).toArray = ls at hl ⊢
  have hl : lv_has ls 10 [(0, .ref (ad 0)), (1, .int x), (2, .int y), (3, .int b), (4, .int la), (5, .int pa), (6, .int fr), (7, .int to)] := hl
  refine lv_iload_n hx hb dX10_keeper_0 rfl (lv_at hl 1 rfl) ?_
  refine lv_iconst (v := 0) hx hb dX10_keeper_1 (by decide) ?_
  refine lv_bipush (v := 19) hx hb dX10_keeper_2 (by decide) ?_
  refine m_callP (n := 3) (As := [.int x, .int 0, .int 19]) (rest := []) (st1 := .int (fIn x 0 19) :: []) S.1 (c_X10_isIn x 0 19) gX10_keeper_X10_isIn rfl (by decide +kernel) ⟨Nat.le_of_ble_eq_true rfl, Nat.le_of_ble_eq_true rfl⟩ rfl hl.1 rfl (Nat.le_of_ble_eq_true rfl) dX10_keeper_4 ⟨Nat.zero_le _, Nat.zero_le _⟩ rfl ?_
  refine lv_if_eq (tgt := 78) hx hb dX10_keeper_7 (by decide) (fun c7 => ?_) (fun c7 => ?_)
  ·
    refine lv_iconst (v := 0) hx hb dX10_keeper_78 (by decide) ?_
    refine lv_istore (lv' := [(8, .int 0), (0, .ref (ad 0)), (1, .int x), (2, .int y), (3, .int b), (4, .int la), (5, .int pa), (6, .int fr), (7, .int to)]) hx hb dX10_keeper_79 hl (by decide) rfl (fun ls hl => ?_)
    refine lv_aload_n hx hb dX10_keeper_81 rfl (lv_at hl 1 rfl) ?_
    refine lv_iload hx hb dX10_keeper_82 (lv_at hl 0 rfl) ?_
    refine lv_if_ne (tgt := 91) hx hb dX10_keeper_84 (by decide) (fun c => absurd c (by decide)) (fun _ => ?_)
    refine lv_iconst (v := 1) hx hb dX10_keeper_87 (by decide) ?_
    refine lv_goto (tgt := 105) hx hb dX10_keeper_88 (by decide) ?_
    refine m_pi S hG hL 0 rfl (hts (.fieldLink RX10 180 "SwarmLineModel" "thrown" "I") (by decide +kernel)) dX10_keeper_105 (fun H locs hG hL => ?_)
    refine lv_aload_n hx hb dX10_keeper_108 rfl (lv_at hl 1 rfl) ?_
    refine m_gi (v := 1) S hG 0 rfl (hts (.fieldLink RX10 180 "SwarmLineModel" "thrown" "I") (by decide +kernel)) dX10_keeper_109 rfl ?_
    refine lv_if_le (tgt := 117) hx hb dX10_keeper_112 (by decide) (fun c => absurd c (by decide)) (fun _ => ?_)
    refine lv_iconst (v := 0) hx hb dX10_keeper_115 (by decide) ?_
    exact m_iret S hr hlocks hG hL dX10_keeper_116 (by simp only [kKe, vKe, sKe, rKe, eq_true c7, il1, il2, il3, ↓reduceIte]) (by simp only [kKe, vKe, sKe, rKe, eq_true c7, il1, il2, il3, ↓reduceIte]) (by simp only [kKe, vKe, sKe, rKe, eq_true c7, il1, il2, il3, ↓reduceIte])
  ·
    refine lv_iload_n hx hb dX10_keeper_10 rfl (lv_at hl 2 rfl) ?_
    refine lv_iconst (v := 0) hx hb dX10_keeper_11 (by decide) ?_
    refine lv_bipush (v := 19) hx hb dX10_keeper_12 (by decide) ?_
    refine m_callP (n := 3) (As := [.int y, .int 0, .int 19]) (rest := []) (st1 := .int (fIn y 0 19) :: []) S.1 (c_X10_isIn y 0 19) gX10_keeper_X10_isIn rfl (by decide +kernel) ⟨Nat.le_of_ble_eq_true rfl, Nat.le_of_ble_eq_true rfl⟩ rfl hl.1 rfl (Nat.le_of_ble_eq_true rfl) dX10_keeper_14 ⟨Nat.zero_le _, Nat.zero_le _⟩ rfl ?_
    refine lv_if_eq (tgt := 78) hx hb dX10_keeper_17 (by decide) (fun c17 => ?_) (fun c17 => ?_)
    ·
      refine lv_iconst (v := 0) hx hb dX10_keeper_78 (by decide) ?_
      refine lv_istore (lv' := [(8, .int 0), (0, .ref (ad 0)), (1, .int x), (2, .int y), (3, .int b), (4, .int la), (5, .int pa), (6, .int fr), (7, .int to)]) hx hb dX10_keeper_79 hl (by decide) rfl (fun ls hl => ?_)
      refine lv_aload_n hx hb dX10_keeper_81 rfl (lv_at hl 1 rfl) ?_
      refine lv_iload hx hb dX10_keeper_82 (lv_at hl 0 rfl) ?_
      refine lv_if_ne (tgt := 91) hx hb dX10_keeper_84 (by decide) (fun c => absurd c (by decide)) (fun _ => ?_)
      refine lv_iconst (v := 1) hx hb dX10_keeper_87 (by decide) ?_
      refine lv_goto (tgt := 105) hx hb dX10_keeper_88 (by decide) ?_
      refine m_pi S hG hL 0 rfl (hts (.fieldLink RX10 180 "SwarmLineModel" "thrown" "I") (by decide +kernel)) dX10_keeper_105 (fun H locs hG hL => ?_)
      refine lv_aload_n hx hb dX10_keeper_108 rfl (lv_at hl 1 rfl) ?_
      refine m_gi (v := 1) S hG 0 rfl (hts (.fieldLink RX10 180 "SwarmLineModel" "thrown" "I") (by decide +kernel)) dX10_keeper_109 rfl ?_
      refine lv_if_le (tgt := 117) hx hb dX10_keeper_112 (by decide) (fun c => absurd c (by decide)) (fun _ => ?_)
      refine lv_iconst (v := 0) hx hb dX10_keeper_115 (by decide) ?_
      exact m_iret S hr hlocks hG hL dX10_keeper_116 (by simp only [kKe, vKe, sKe, rKe, eq_false c7, eq_true c17, il1, il2, il3, ↓reduceIte]) (by simp only [kKe, vKe, sKe, rKe, eq_false c7, eq_true c17, il1, il2, il3, ↓reduceIte]) (by simp only [kKe, vKe, sKe, rKe, eq_false c7, eq_true c17, il1, il2, il3, ↓reduceIte])
    ·
      refine lv_iload_n hx hb dX10_keeper_20 rfl (lv_at hl 3 rfl) ?_
      refine lv_iconst (v := 0) hx hb dX10_keeper_21 (by decide) ?_
      refine lv_bipush (v := 20) hx hb dX10_keeper_22 (by decide) ?_
      refine m_callP (n := 3) (As := [.int b, .int 0, .int 20]) (rest := []) (st1 := .int (fIn b 0 20) :: []) S.1 (c_X10_isIn b 0 20) gX10_keeper_X10_isIn rfl (by decide +kernel) ⟨Nat.le_of_ble_eq_true rfl, Nat.le_of_ble_eq_true rfl⟩ rfl hl.1 rfl (Nat.le_of_ble_eq_true rfl) dX10_keeper_24 ⟨Nat.zero_le _, Nat.zero_le _⟩ rfl ?_
      refine lv_if_eq (tgt := 78) hx hb dX10_keeper_27 (by decide) (fun c27 => ?_) (fun c27 => ?_)
      ·
        refine lv_iconst (v := 0) hx hb dX10_keeper_78 (by decide) ?_
        refine lv_istore (lv' := [(8, .int 0), (0, .ref (ad 0)), (1, .int x), (2, .int y), (3, .int b), (4, .int la), (5, .int pa), (6, .int fr), (7, .int to)]) hx hb dX10_keeper_79 hl (by decide) rfl (fun ls hl => ?_)
        refine lv_aload_n hx hb dX10_keeper_81 rfl (lv_at hl 1 rfl) ?_
        refine lv_iload hx hb dX10_keeper_82 (lv_at hl 0 rfl) ?_
        refine lv_if_ne (tgt := 91) hx hb dX10_keeper_84 (by decide) (fun c => absurd c (by decide)) (fun _ => ?_)
        refine lv_iconst (v := 1) hx hb dX10_keeper_87 (by decide) ?_
        refine lv_goto (tgt := 105) hx hb dX10_keeper_88 (by decide) ?_
        refine m_pi S hG hL 0 rfl (hts (.fieldLink RX10 180 "SwarmLineModel" "thrown" "I") (by decide +kernel)) dX10_keeper_105 (fun H locs hG hL => ?_)
        refine lv_aload_n hx hb dX10_keeper_108 rfl (lv_at hl 1 rfl) ?_
        refine m_gi (v := 1) S hG 0 rfl (hts (.fieldLink RX10 180 "SwarmLineModel" "thrown" "I") (by decide +kernel)) dX10_keeper_109 rfl ?_
        refine lv_if_le (tgt := 117) hx hb dX10_keeper_112 (by decide) (fun c => absurd c (by decide)) (fun _ => ?_)
        refine lv_iconst (v := 0) hx hb dX10_keeper_115 (by decide) ?_
        exact m_iret S hr hlocks hG hL dX10_keeper_116 (by simp only [kKe, vKe, sKe, rKe, eq_false c7, eq_false c17, eq_true c27, il1, il2, il3, ↓reduceIte]) (by simp only [kKe, vKe, sKe, rKe, eq_false c7, eq_false c17, eq_true c27, il1, il2, il3, ↓reduceIte]) (by simp only [kKe, vKe, sKe, rKe, eq_false c7, eq_false c17, eq_true c27, il1, il2, il3, ↓reduceIte])
      ·
        refine lv_iload hx hb dX10_keeper_30 (lv_at hl 4 rfl) ?_
        refine lv_iconst (v := 0) hx hb dX10_keeper_32 (by decide) ?_
        refine lv_bipush (v := 9) hx hb dX10_keeper_33 (by decide) ?_
        refine m_callP (n := 3) (As := [.int la, .int 0, .int 9]) (rest := []) (st1 := .int (fIn la 0 9) :: []) S.1 (c_X10_isIn la 0 9) gX10_keeper_X10_isIn rfl (by decide +kernel) ⟨Nat.le_of_ble_eq_true rfl, Nat.le_of_ble_eq_true rfl⟩ rfl hl.1 rfl (Nat.le_of_ble_eq_true rfl) dX10_keeper_35 ⟨Nat.zero_le _, Nat.zero_le _⟩ rfl ?_
        refine lv_if_eq (tgt := 78) hx hb dX10_keeper_38 (by decide) (fun c38 => ?_) (fun c38 => ?_)
        ·
          refine lv_iconst (v := 0) hx hb dX10_keeper_78 (by decide) ?_
          refine lv_istore (lv' := [(8, .int 0), (0, .ref (ad 0)), (1, .int x), (2, .int y), (3, .int b), (4, .int la), (5, .int pa), (6, .int fr), (7, .int to)]) hx hb dX10_keeper_79 hl (by decide) rfl (fun ls hl => ?_)
          refine lv_aload_n hx hb dX10_keeper_81 rfl (lv_at hl 1 rfl) ?_
          refine lv_iload hx hb dX10_keeper_82 (lv_at hl 0 rfl) ?_
          refine lv_if_ne (tgt := 91) hx hb dX10_keeper_84 (by decide) (fun c => absurd c (by decide)) (fun _ => ?_)
          refine lv_iconst (v := 1) hx hb dX10_keeper_87 (by decide) ?_
          refine lv_goto (tgt := 105) hx hb dX10_keeper_88 (by decide) ?_
          refine m_pi S hG hL 0 rfl (hts (.fieldLink RX10 180 "SwarmLineModel" "thrown" "I") (by decide +kernel)) dX10_keeper_105 (fun H locs hG hL => ?_)
          refine lv_aload_n hx hb dX10_keeper_108 rfl (lv_at hl 1 rfl) ?_
          refine m_gi (v := 1) S hG 0 rfl (hts (.fieldLink RX10 180 "SwarmLineModel" "thrown" "I") (by decide +kernel)) dX10_keeper_109 rfl ?_
          refine lv_if_le (tgt := 117) hx hb dX10_keeper_112 (by decide) (fun c => absurd c (by decide)) (fun _ => ?_)
          refine lv_iconst (v := 0) hx hb dX10_keeper_115 (by decide) ?_
          exact m_iret S hr hlocks hG hL dX10_keeper_116 (by simp only [kKe, vKe, sKe, rKe, eq_false c7, eq_false c17, eq_false c27, eq_true c38, il1, il2, il3, ↓reduceIte]) (by simp only [kKe, vKe, sKe, rKe, eq_false c7, eq_false c17, eq_false c27, eq_true c38, il1, il2, il3, ↓reduceIte]) (by simp only [kKe, vKe, sKe, rKe, eq_false c7, eq_false c17, eq_false c27, eq_true c38, il1, il2, il3, ↓reduceIte])
        ·
          refine lv_iload hx hb dX10_keeper_41 (lv_at hl 5 rfl) ?_
          refine lv_iconst (v := 1) hx hb dX10_keeper_43 (by decide) ?_
          refine lv_bipush (v := 10) hx hb dX10_keeper_44 (by decide) ?_
          refine m_callP (n := 3) (As := [.int pa, .int 1, .int 10]) (rest := []) (st1 := .int (fIn pa 1 10) :: []) S.1 (c_X10_isIn pa 1 10) gX10_keeper_X10_isIn rfl (by decide +kernel) ⟨Nat.le_of_ble_eq_true rfl, Nat.le_of_ble_eq_true rfl⟩ rfl hl.1 rfl (Nat.le_of_ble_eq_true rfl) dX10_keeper_46 ⟨Nat.zero_le _, Nat.zero_le _⟩ rfl ?_
          refine lv_if_eq (tgt := 78) hx hb dX10_keeper_49 (by decide) (fun c49 => ?_) (fun c49 => ?_)
          ·
            refine lv_iconst (v := 0) hx hb dX10_keeper_78 (by decide) ?_
            refine lv_istore (lv' := [(8, .int 0), (0, .ref (ad 0)), (1, .int x), (2, .int y), (3, .int b), (4, .int la), (5, .int pa), (6, .int fr), (7, .int to)]) hx hb dX10_keeper_79 hl (by decide) rfl (fun ls hl => ?_)
            refine lv_aload_n hx hb dX10_keeper_81 rfl (lv_at hl 1 rfl) ?_
            refine lv_iload hx hb dX10_keeper_82 (lv_at hl 0 rfl) ?_
            refine lv_if_ne (tgt := 91) hx hb dX10_keeper_84 (by decide) (fun c => absurd c (by decide)) (fun _ => ?_)
            refine lv_iconst (v := 1) hx hb dX10_keeper_87 (by decide) ?_
            refine lv_goto (tgt := 105) hx hb dX10_keeper_88 (by decide) ?_
            refine m_pi S hG hL 0 rfl (hts (.fieldLink RX10 180 "SwarmLineModel" "thrown" "I") (by decide +kernel)) dX10_keeper_105 (fun H locs hG hL => ?_)
            refine lv_aload_n hx hb dX10_keeper_108 rfl (lv_at hl 1 rfl) ?_
            refine m_gi (v := 1) S hG 0 rfl (hts (.fieldLink RX10 180 "SwarmLineModel" "thrown" "I") (by decide +kernel)) dX10_keeper_109 rfl ?_
            refine lv_if_le (tgt := 117) hx hb dX10_keeper_112 (by decide) (fun c => absurd c (by decide)) (fun _ => ?_)
            refine lv_iconst (v := 0) hx hb dX10_keeper_115 (by decide) ?_
            exact m_iret S hr hlocks hG hL dX10_keeper_116 (by simp only [kKe, vKe, sKe, rKe, eq_false c7, eq_false c17, eq_false c27, eq_false c38, eq_true c49, il1, il2, il3, ↓reduceIte]) (by simp only [kKe, vKe, sKe, rKe, eq_false c7, eq_false c17, eq_false c27, eq_false c38, eq_true c49, il1, il2, il3, ↓reduceIte]) (by simp only [kKe, vKe, sKe, rKe, eq_false c7, eq_false c17, eq_false c27, eq_false c38, eq_true c49, il1, il2, il3, ↓reduceIte])
          ·
            refine lv_iload hx hb dX10_keeper_52 (lv_at hl 6 rfl) ?_
            refine lv_iconst (v := 0) hx hb dX10_keeper_54 (by decide) ?_
            refine lv_bipush (v := 23) hx hb dX10_keeper_55 (by decide) ?_
            refine m_callP (n := 3) (As := [.int fr, .int 0, .int 23]) (rest := []) (st1 := .int (fIn fr 0 23) :: []) S.1 (c_X10_isIn fr 0 23) gX10_keeper_X10_isIn rfl (by decide +kernel) ⟨Nat.le_of_ble_eq_true rfl, Nat.le_of_ble_eq_true rfl⟩ rfl hl.1 rfl (Nat.le_of_ble_eq_true rfl) dX10_keeper_57 ⟨Nat.zero_le _, Nat.zero_le _⟩ rfl ?_
            refine lv_if_eq (tgt := 78) hx hb dX10_keeper_60 (by decide) (fun c60 => ?_) (fun c60 => ?_)
            ·
              refine lv_iconst (v := 0) hx hb dX10_keeper_78 (by decide) ?_
              refine lv_istore (lv' := [(8, .int 0), (0, .ref (ad 0)), (1, .int x), (2, .int y), (3, .int b), (4, .int la), (5, .int pa), (6, .int fr), (7, .int to)]) hx hb dX10_keeper_79 hl (by decide) rfl (fun ls hl => ?_)
              refine lv_aload_n hx hb dX10_keeper_81 rfl (lv_at hl 1 rfl) ?_
              refine lv_iload hx hb dX10_keeper_82 (lv_at hl 0 rfl) ?_
              refine lv_if_ne (tgt := 91) hx hb dX10_keeper_84 (by decide) (fun c => absurd c (by decide)) (fun _ => ?_)
              refine lv_iconst (v := 1) hx hb dX10_keeper_87 (by decide) ?_
              refine lv_goto (tgt := 105) hx hb dX10_keeper_88 (by decide) ?_
              refine m_pi S hG hL 0 rfl (hts (.fieldLink RX10 180 "SwarmLineModel" "thrown" "I") (by decide +kernel)) dX10_keeper_105 (fun H locs hG hL => ?_)
              refine lv_aload_n hx hb dX10_keeper_108 rfl (lv_at hl 1 rfl) ?_
              refine m_gi (v := 1) S hG 0 rfl (hts (.fieldLink RX10 180 "SwarmLineModel" "thrown" "I") (by decide +kernel)) dX10_keeper_109 rfl ?_
              refine lv_if_le (tgt := 117) hx hb dX10_keeper_112 (by decide) (fun c => absurd c (by decide)) (fun _ => ?_)
              refine lv_iconst (v := 0) hx hb dX10_keeper_115 (by decide) ?_
              exact m_iret S hr hlocks hG hL dX10_keeper_116 (by simp only [kKe, vKe, sKe, rKe, eq_false c7, eq_false c17, eq_false c27, eq_false c38, eq_false c49, eq_true c60, il1, il2, il3, ↓reduceIte]) (by simp only [kKe, vKe, sKe, rKe, eq_false c7, eq_false c17, eq_false c27, eq_false c38, eq_false c49, eq_true c60, il1, il2, il3, ↓reduceIte]) (by simp only [kKe, vKe, sKe, rKe, eq_false c7, eq_false c17, eq_false c27, eq_false c38, eq_false c49, eq_true c60, il1, il2, il3, ↓reduceIte])
            ·
              refine lv_iload hx hb dX10_keeper_63 (lv_at hl 7 rfl) ?_
              refine lv_iconst (v := 0) hx hb dX10_keeper_65 (by decide) ?_
              refine lv_bipush (v := 23) hx hb dX10_keeper_66 (by decide) ?_
              refine m_callP (n := 3) (As := [.int to, .int 0, .int 23]) (rest := []) (st1 := .int (fIn to 0 23) :: []) S.1 (c_X10_isIn to 0 23) gX10_keeper_X10_isIn rfl (by decide +kernel) ⟨Nat.le_of_ble_eq_true rfl, Nat.le_of_ble_eq_true rfl⟩ rfl hl.1 rfl (Nat.le_of_ble_eq_true rfl) dX10_keeper_68 ⟨Nat.zero_le _, Nat.zero_le _⟩ rfl ?_
              refine lv_if_eq (tgt := 78) hx hb dX10_keeper_71 (by decide) (fun c71 => ?_) (fun c71 => ?_)
              ·
                refine lv_iconst (v := 0) hx hb dX10_keeper_78 (by decide) ?_
                refine lv_istore (lv' := [(8, .int 0), (0, .ref (ad 0)), (1, .int x), (2, .int y), (3, .int b), (4, .int la), (5, .int pa), (6, .int fr), (7, .int to)]) hx hb dX10_keeper_79 hl (by decide) rfl (fun ls hl => ?_)
                refine lv_aload_n hx hb dX10_keeper_81 rfl (lv_at hl 1 rfl) ?_
                refine lv_iload hx hb dX10_keeper_82 (lv_at hl 0 rfl) ?_
                refine lv_if_ne (tgt := 91) hx hb dX10_keeper_84 (by decide) (fun c => absurd c (by decide)) (fun _ => ?_)
                refine lv_iconst (v := 1) hx hb dX10_keeper_87 (by decide) ?_
                refine lv_goto (tgt := 105) hx hb dX10_keeper_88 (by decide) ?_
                refine m_pi S hG hL 0 rfl (hts (.fieldLink RX10 180 "SwarmLineModel" "thrown" "I") (by decide +kernel)) dX10_keeper_105 (fun H locs hG hL => ?_)
                refine lv_aload_n hx hb dX10_keeper_108 rfl (lv_at hl 1 rfl) ?_
                refine m_gi (v := 1) S hG 0 rfl (hts (.fieldLink RX10 180 "SwarmLineModel" "thrown" "I") (by decide +kernel)) dX10_keeper_109 rfl ?_
                refine lv_if_le (tgt := 117) hx hb dX10_keeper_112 (by decide) (fun c => absurd c (by decide)) (fun _ => ?_)
                refine lv_iconst (v := 0) hx hb dX10_keeper_115 (by decide) ?_
                exact m_iret S hr hlocks hG hL dX10_keeper_116 (by simp only [kKe, vKe, sKe, rKe, eq_false c7, eq_false c17, eq_false c27, eq_false c38, eq_false c49, eq_false c60, eq_true c71, il1, il2, il3, ↓reduceIte]) (by simp only [kKe, vKe, sKe, rKe, eq_false c7, eq_false c17, eq_false c27, eq_false c38, eq_false c49, eq_false c60, eq_true c71, il1, il2, il3, ↓reduceIte]) (by simp only [kKe, vKe, sKe, rKe, eq_false c7, eq_false c17, eq_false c27, eq_false c38, eq_false c49, eq_false c60, eq_true c71, il1, il2, il3, ↓reduceIte])
              ·
                refine lv_iconst (v := 1) hx hb dX10_keeper_74 (by decide) ?_
                refine lv_goto (tgt := 79) hx hb dX10_keeper_75 (by decide) ?_
                refine lv_istore (lv' := [(8, .int 1), (0, .ref (ad 0)), (1, .int x), (2, .int y), (3, .int b), (4, .int la), (5, .int pa), (6, .int fr), (7, .int to)]) hx hb dX10_keeper_79 hl (by decide) rfl (fun ls hl => ?_)
                refine lv_aload_n hx hb dX10_keeper_81 rfl (lv_at hl 1 rfl) ?_
                refine lv_iload hx hb dX10_keeper_82 (lv_at hl 0 rfl) ?_
                refine lv_if_ne (tgt := 91) hx hb dX10_keeper_84 (by decide) (fun _ => ?_) (fun c => absurd c (by decide))
                refine lv_aload_n hx hb dX10_keeper_91 rfl (lv_at hl 1 rfl) ?_
                refine m_gi (v := s 26) S hG 26 rfl (hts (.fieldLink RX10 189 "SwarmLineModel" "keepers" "I") (by decide +kernel)) dX10_keeper_92 rfl ?_
                refine lv_bipush (v := 12) hx hb dX10_keeper_95 (by decide) ?_
                refine lv_icmp_ne (tgt := 104) hx hb dX10_keeper_97 (by decide) (fun c97 => ?_) (fun c97 => ?_)
                ·
                  refine lv_iconst (v := 0) hx hb dX10_keeper_104 (by decide) ?_
                  refine m_pi S hG hL 0 rfl (hts (.fieldLink RX10 180 "SwarmLineModel" "thrown" "I") (by decide +kernel)) dX10_keeper_105 (fun H locs hG hL => ?_)
                  refine lv_aload_n hx hb dX10_keeper_108 rfl (lv_at hl 1 rfl) ?_
                  refine m_gi (v := 0) S hG 0 rfl (hts (.fieldLink RX10 180 "SwarmLineModel" "thrown" "I") (by decide +kernel)) dX10_keeper_109 rfl ?_
                  refine lv_if_le (tgt := 117) hx hb dX10_keeper_112 (by decide) (fun _ => ?_) (fun c => absurd c (by decide))
                  refine lv_aload_n hx hb dX10_keeper_117 rfl (lv_at hl 1 rfl) ?_
                  refine m_gi (v := s 26) S hG 26 rfl (hts (.fieldLink RX10 189 "SwarmLineModel" "keepers" "I") (by decide +kernel)) dX10_keeper_118 rfl ?_
                  refine lv_istore (lv' := [(9, .int (s 26)), (8, .int 1), (0, .ref (ad 0)), (1, .int x), (2, .int y), (3, .int b), (4, .int la), (5, .int pa), (6, .int fr), (7, .int to)]) hx hb dX10_keeper_121 hl (by decide) rfl (fun ls hl => ?_)
                  refine lv_aload_n hx hb dX10_keeper_123 rfl (lv_at hl 2 rfl) ?_
                  refine m_ga S hG 27 rfl (hts (.fieldLink RX10 76 "SwarmLineModel" "keeperX" "[I") (by decide +kernel)) dX10_keeper_124 ?_
                  refine lv_iload hx hb dX10_keeper_127 (lv_at hl 0 rfl) ?_
                  refine lv_iload_n hx hb dX10_keeper_129 rfl (lv_at hl 3 rfl) ?_
                  refine m_st S hG hL 27 rfl (show vp_in (s 26) 12 from tq_ne rfl h0 h1 c97) dX10_keeper_130 (fun H locs hG hL => ?_)
                  refine lv_aload_n hx hb dX10_keeper_131 rfl (lv_at hl 2 rfl) ?_
                  refine m_ga S hG 28 rfl (hts (.fieldLink RX10 79 "SwarmLineModel" "keeperY" "[I") (by decide +kernel)) dX10_keeper_132 ?_
                  refine lv_iload hx hb dX10_keeper_135 (lv_at hl 0 rfl) ?_
                  refine lv_iload_n hx hb dX10_keeper_137 rfl (lv_at hl 4 rfl) ?_
                  refine m_st S hG hL 28 rfl (show vp_in (s 26) 12 from tq_ne rfl h0 h1 c97) dX10_keeper_138 (fun H locs hG hL => ?_)
                  refine lv_aload_n hx hb dX10_keeper_139 rfl (lv_at hl 2 rfl) ?_
                  refine m_ga S hG 29 rfl (hts (.fieldLink RX10 82 "SwarmLineModel" "keeperBoxes" "[I") (by decide +kernel)) dX10_keeper_140 ?_
                  refine lv_iload hx hb dX10_keeper_143 (lv_at hl 0 rfl) ?_
                  refine lv_iload_n hx hb dX10_keeper_145 rfl (lv_at hl 5 rfl) ?_
                  refine m_st S hG hL 29 rfl (show vp_in (s 26) 12 from tq_ne rfl h0 h1 c97) dX10_keeper_146 (fun H locs hG hL => ?_)
                  refine lv_aload_n hx hb dX10_keeper_147 rfl (lv_at hl 2 rfl) ?_
                  refine m_ga S hG 30 rfl (hts (.fieldLink RX10 85 "SwarmLineModel" "keeperLadder" "[I") (by decide +kernel)) dX10_keeper_148 ?_
                  refine lv_iload hx hb dX10_keeper_151 (lv_at hl 0 rfl) ?_
                  refine lv_iload hx hb dX10_keeper_153 (lv_at hl 6 rfl) ?_
                  refine m_st S hG hL 30 rfl (show vp_in (s 26) 12 from tq_ne rfl h0 h1 c97) dX10_keeper_155 (fun H locs hG hL => ?_)
                  refine lv_aload_n hx hb dX10_keeper_156 rfl (lv_at hl 2 rfl) ?_
                  refine m_ga S hG 31 rfl (hts (.fieldLink RX10 88 "SwarmLineModel" "keeperPace" "[I") (by decide +kernel)) dX10_keeper_157 ?_
                  refine lv_iload hx hb dX10_keeper_160 (lv_at hl 0 rfl) ?_
                  refine lv_iload hx hb dX10_keeper_162 (lv_at hl 7 rfl) ?_
                  refine m_st S hG hL 31 rfl (show vp_in (s 26) 12 from tq_ne rfl h0 h1 c97) dX10_keeper_164 (fun H locs hG hL => ?_)
                  refine lv_aload_n hx hb dX10_keeper_165 rfl (lv_at hl 2 rfl) ?_
                  refine m_ga S hG 32 rfl (hts (.fieldLink RX10 91 "SwarmLineModel" "keeperFrom" "[I") (by decide +kernel)) dX10_keeper_166 ?_
                  refine lv_iload hx hb dX10_keeper_169 (lv_at hl 0 rfl) ?_
                  refine lv_iload hx hb dX10_keeper_171 (lv_at hl 8 rfl) ?_
                  refine m_st S hG hL 32 rfl (show vp_in (s 26) 12 from tq_ne rfl h0 h1 c97) dX10_keeper_173 (fun H locs hG hL => ?_)
                  refine lv_aload_n hx hb dX10_keeper_174 rfl (lv_at hl 2 rfl) ?_
                  refine m_ga S hG 33 rfl (hts (.fieldLink RX10 94 "SwarmLineModel" "keeperTo" "[I") (by decide +kernel)) dX10_keeper_175 ?_
                  refine lv_iload hx hb dX10_keeper_178 (lv_at hl 0 rfl) ?_
                  refine lv_iload hx hb dX10_keeper_180 (lv_at hl 9 rfl) ?_
                  refine m_st S hG hL 33 rfl (show vp_in (s 26) 12 from tq_ne rfl h0 h1 c97) dX10_keeper_182 (fun H locs hG hL => ?_)
                  refine lv_aload_n hx hb dX10_keeper_183 rfl (lv_at hl 2 rfl) ?_
                  refine m_ga S hG 34 rfl (hts (.fieldLink RX10 97 "SwarmLineModel" "keeperState" "[I") (by decide +kernel)) dX10_keeper_184 ?_
                  refine lv_iload hx hb dX10_keeper_187 (lv_at hl 0 rfl) ?_
                  refine lv_iconst (v := 0) hx hb dX10_keeper_189 (by decide) ?_
                  refine m_st S hG hL 34 rfl (show vp_in (s 26) 12 from tq_ne rfl h0 h1 c97) dX10_keeper_190 (fun H locs hG hL => ?_)
                  refine lv_aload_n hx hb dX10_keeper_191 rfl (lv_at hl 2 rfl) ?_
                  refine m_ga S hG 35 rfl (hts (.fieldLink RX10 100 "SwarmLineModel" "keeperGo" "[I") (by decide +kernel)) dX10_keeper_192 ?_
                  refine lv_iload hx hb dX10_keeper_195 (lv_at hl 0 rfl) ?_
                  refine lv_iconst (v := 0) hx hb dX10_keeper_197 (by decide) ?_
                  refine m_st S hG hL 35 rfl (show vp_in (s 26) 12 from tq_ne rfl h0 h1 c97) dX10_keeper_198 (fun H locs hG hL => ?_)
                  refine lv_aload_n hx hb dX10_keeper_199 rfl (lv_at hl 2 rfl) ?_
                  refine m_ga S hG 37 rfl (hts (.fieldLink RX10 106 "SwarmLineModel" "keeperCase" "[I") (by decide +kernel)) dX10_keeper_200 ?_
                  refine lv_iload hx hb dX10_keeper_203 (lv_at hl 0 rfl) ?_
                  refine lv_iconst (v := (-1)) hx hb dX10_keeper_205 (by decide) ?_
                  refine m_st S hG hL 37 rfl (show vp_in (s 26) 12 from tq_ne rfl h0 h1 c97) dX10_keeper_206 (fun H locs hG hL => ?_)
                  refine lv_aload_n hx hb dX10_keeper_207 rfl (lv_at hl 2 rfl) ?_
                  refine m_ga S hG 38 rfl (hts (.fieldLink RX10 109 "SwarmLineModel" "keeperHad" "[I") (by decide +kernel)) dX10_keeper_208 ?_
                  refine lv_iload hx hb dX10_keeper_211 (lv_at hl 0 rfl) ?_
                  refine lv_iconst (v := 0) hx hb dX10_keeper_213 (by decide) ?_
                  refine m_st S hG hL 38 rfl (show vp_in (s 26) 12 from tq_ne rfl h0 h1 c97) dX10_keeper_214 (fun H locs hG hL => ?_)
                  refine lv_aload_n hx hb dX10_keeper_215 rfl (lv_at hl 2 rfl) ?_
                  refine lv_dup hx hb dX10_keeper_216 rfl ?_
                  refine m_gi (v := s 26) S hG 26 rfl (hts (.fieldLink RX10 189 "SwarmLineModel" "keepers" "I") (by decide +kernel)) dX10_keeper_217 rfl ?_
                  refine lv_iconst (v := 1) hx hb dX10_keeper_220 (by decide) ?_
                  refine lv_iadd hx hb dX10_keeper_221 ?_
                  refine m_pi S hG hL 26 rfl (hts (.fieldLink RX10 189 "SwarmLineModel" "keepers" "I") (by decide +kernel)) dX10_keeper_222 (fun H locs hG hL => ?_)
                  refine lv_iload hx hb dX10_keeper_225 (lv_at hl 0 rfl) ?_
                  exact m_iret S hr hlocks hG hL dX10_keeper_227 (by simp only [kKe, vKe, sKe, rKe, eq_false c7, eq_false c17, eq_false c27, eq_false c38, eq_false c49, eq_false c60, eq_false c71, eq_false c97, il1, il2, il3, ↓reduceIte]) (by simp only [kKe, vKe, sKe, rKe, eq_false c7, eq_false c17, eq_false c27, eq_false c38, eq_false c49, eq_false c60, eq_false c71, eq_false c97, il1, il2, il3, ↓reduceIte]) (by simp only [kKe, vKe, sKe, rKe, eq_false c7, eq_false c17, eq_false c27, eq_false c38, eq_false c49, eq_false c60, eq_false c71, eq_false c97, il1, il2, il3, ↓reduceIte])
                ·
                  refine lv_iconst (v := 2) hx hb dX10_keeper_100 (by decide) ?_
                  refine lv_goto (tgt := 105) hx hb dX10_keeper_101 (by decide) ?_
                  refine m_pi S hG hL 0 rfl (hts (.fieldLink RX10 180 "SwarmLineModel" "thrown" "I") (by decide +kernel)) dX10_keeper_105 (fun H locs hG hL => ?_)
                  refine lv_aload_n hx hb dX10_keeper_108 rfl (lv_at hl 1 rfl) ?_
                  refine m_gi (v := 2) S hG 0 rfl (hts (.fieldLink RX10 180 "SwarmLineModel" "thrown" "I") (by decide +kernel)) dX10_keeper_109 rfl ?_
                  refine lv_if_le (tgt := 117) hx hb dX10_keeper_112 (by decide) (fun c => absurd c (by decide)) (fun _ => ?_)
                  refine lv_iconst (v := 0) hx hb dX10_keeper_115 (by decide) ?_
                  exact m_iret S hr hlocks hG hL dX10_keeper_116 (by simp only [kKe, vKe, sKe, rKe, eq_false c7, eq_false c17, eq_false c27, eq_false c38, eq_false c49, eq_false c60, eq_false c71, eq_true c97, il1, il2, il3, ↓reduceIte]) (by simp only [kKe, vKe, sKe, rKe, eq_false c7, eq_false c17, eq_false c27, eq_false c38, eq_false c49, eq_false c60, eq_false c71, eq_true c97, il1, il2, il3, ↓reduceIte]) (by simp only [kKe, vKe, sKe, rKe, eq_false c7, eq_false c17, eq_false c27, eq_false c38, eq_false c49, eq_false c60, eq_false c71, eq_true c97, il1, il2, il3, ↓reduceIte])
set_option maxHeartbeats 4000000 in
set_option maxRecDepth 100000 in
theorem c_X10_boxes {l : Launch} {D : va_G} {cI cZ cB cO cR cJ : ClassId} {Hb : Heap} {lv : Nat → Prop} {ad : Nat → Nat} {ce0 : Nat → va_E} (hlv : lM lv) (k : Int32) (n : Int32) (s : Nat → Int32) (r : Nat → Nat → Int32) (h1 : (s 26).toInt ≤ 12) : mMet l D cI cZ cB cO cR cJ Hb lv ad ce0 yX10_boxes wsX10_boxes 1 22 [.ref (ad 0), .int k, .int n] s r (some (.int (vBo k n s r))) (upd s 0 (kBo k n s)) (rBo k n s r) := by
  refine Met.ofW (cc := cX10_boxes) (maxL := 4) (ret := (some .int)) (by decide) rfl ?_
  intro p0 e0 s0 m0 args below meth c0 s₁ B hml hv
  obtain ⟨rfl, hG, hK⟩ := hv
  have hx := B.exec
  have hb := B.bytes
  have hr := B.returns
  have hts := atoms_spec (ws := wsX10_boxes) B.pre
  have hown : s0.vm.findClass RX10 = some m0.cls := findClass_of_methodNamed B.named
  have hlocks := B.notSynchronized
  have S : mX p0 m0 c0 cX10_boxes 4 s0 _ wsX10_boxes D cI cZ cB cO cR cJ lv := ⟨⟨hx, hb, hml, hown, hts⟩, hK, fun w h => List.mem_cons_of_mem _ (List.mem_append_right _ h), hlv⟩
  have hL : gL Hb [] := gL.nil
  have hl := lv_entry ([.ref (ad 0), .int k, .int n]) (n := 4) (Nat.le_of_ble_eq_true rfl)
  rw [lg_entry_eq]
  generalize (lg_sl ([.ref (ad 0), .int k, .int n]) ++ List.replicate (4 - (lg_sl ([.ref (ad 0), .int k, .int n])).length) Slot.unset).toArray = ls at hl ⊢
  have hl : lv_has ls 4 [(0, .ref (ad 0)), (1, .int k), (2, .int n)] := hl
  refine lv_aload_n hx hb dX10_boxes_0 rfl (lv_at hl 0 rfl) ?_
  refine lv_aload_n hx hb dX10_boxes_1 rfl (lv_at hl 0 rfl) ?_
  refine lv_iload_n hx hb dX10_boxes_2 rfl (lv_at hl 1 rfl) ?_
  refine m_callV (n := 1) (As := [.int k]) (rest := [.ref (ad 0)]) (st1 := .int (fIs (s 26) k) :: [.ref (ad 0)]) S hG hL (c_X10_isKeeper hlv k s r ) gX10_boxes_X10_isKeeper rfl (by decide +kernel) ⟨Nat.le_of_ble_eq_true rfl, Nat.le_of_ble_eq_true rfl⟩ rfl hl.1 rfl (Nat.le_of_ble_eq_true rfl) dX10_boxes_3 ⟨Nat.zero_le _, Nat.zero_le _⟩ (rfl) (fun H locs hG hL => ?_)
  refine lv_if_ne (tgt := 13) hx hb dX10_boxes_6 (by decide) (fun c6 => ?_) (fun c6 => ?_)
  ·
    refine lv_iload_n hx hb dX10_boxes_13 rfl (lv_at hl 2 rfl) ?_
    refine lv_iconst (v := 0) hx hb dX10_boxes_14 (by decide) ?_
    refine lv_bipush (v := 20) hx hb dX10_boxes_15 (by decide) ?_
    refine m_callP (n := 3) (As := [.int n, .int 0, .int 20]) (rest := [.ref (ad 0)]) (st1 := .int (fIn n 0 20) :: [.ref (ad 0)]) S.1 (c_X10_isIn n 0 20) gX10_boxes_X10_isIn rfl (by decide +kernel) ⟨Nat.le_of_ble_eq_true rfl, Nat.le_of_ble_eq_true rfl⟩ rfl hl.1 rfl (Nat.le_of_ble_eq_true rfl) dX10_boxes_17 ⟨Nat.zero_le _, Nat.zero_le _⟩ rfl ?_
    refine lv_if_ne (tgt := 27) hx hb dX10_boxes_20 (by decide) (fun c20 => ?_) (fun c20 => ?_)
    ·
      refine lv_iconst (v := 0) hx hb dX10_boxes_27 (by decide) ?_
      refine m_pi S hG hL 0 rfl (hts (.fieldLink RX10 180 "SwarmLineModel" "thrown" "I") (by decide +kernel)) dX10_boxes_28 (fun H locs hG hL => ?_)
      refine lv_aload_n hx hb dX10_boxes_31 rfl (lv_at hl 0 rfl) ?_
      refine m_gi (v := 0) S hG 0 rfl (hts (.fieldLink RX10 180 "SwarmLineModel" "thrown" "I") (by decide +kernel)) dX10_boxes_32 rfl ?_
      refine lv_if_le (tgt := 40) hx hb dX10_boxes_35 (by decide) (fun _ => ?_) (fun c => absurd c (by decide))
      refine lv_aload_n hx hb dX10_boxes_40 rfl (lv_at hl 0 rfl) ?_
      refine m_ga S hG 29 rfl (hts (.fieldLink RX10 82 "SwarmLineModel" "keeperBoxes" "[I") (by decide +kernel)) dX10_boxes_41 ?_
      refine lv_iload_n hx hb dX10_boxes_44 rfl (lv_at hl 1 rfl) ?_
      refine m_ld (v := r 29 (Int32.toNatClampNeg k)) S hG 29 rfl (show vp_in k 12 from fIs_in c6 h1) dX10_boxes_45 (rfl) ?_
      refine lv_iload_n hx hb dX10_boxes_46 rfl (lv_at hl 2 rfl) ?_
      refine lv_iadd hx hb dX10_boxes_47 ?_
      refine lv_istore_n (lv' := [(3, .int ((r 29 (Int32.toNatClampNeg k)) + n)), (0, .ref (ad 0)), (1, .int k), (2, .int n)]) hx hb dX10_boxes_48 rfl hl (by decide) rfl (fun ls hl => ?_)
      refine lv_aload_n hx hb dX10_boxes_49 rfl (lv_at hl 1 rfl) ?_
      refine m_ga S hG 29 rfl (hts (.fieldLink RX10 82 "SwarmLineModel" "keeperBoxes" "[I") (by decide +kernel)) dX10_boxes_50 ?_
      refine lv_iload_n hx hb dX10_boxes_53 rfl (lv_at hl 2 rfl) ?_
      refine lv_iload_n hx hb dX10_boxes_54 rfl (lv_at hl 0 rfl) ?_
      refine lv_bipush (v := 20) hx hb dX10_boxes_55 (by decide) ?_
      refine lv_icmp_le (tgt := 65) hx hb dX10_boxes_57 (by decide) (fun c57 => ?_) (fun c57 => ?_)
      ·
        refine lv_iload_n hx hb dX10_boxes_65 rfl (lv_at hl 0 rfl) ?_
        refine m_st S hG hL 29 rfl (show vp_in k 12 from fIs_in c6 h1) dX10_boxes_66 (fun H locs hG hL => ?_)
        refine lv_aload_n hx hb dX10_boxes_67 rfl (lv_at hl 1 rfl) ?_
        refine m_ga S hG 29 rfl (hts (.fieldLink RX10 82 "SwarmLineModel" "keeperBoxes" "[I") (by decide +kernel)) dX10_boxes_68 ?_
        refine lv_iload_n hx hb dX10_boxes_71 rfl (lv_at hl 2 rfl) ?_
        refine m_ld (v := (r 29 (Int32.toNatClampNeg k)) + n) S hG 29 rfl (show vp_in k 12 from fIs_in c6 h1) dX10_boxes_72 (up2_ss ..) ?_
        exact m_iret S hr hlocks hG hL dX10_boxes_73 (by simp only [kBo, vBo, rBo, bBo, eq_false c6, eq_false c20, eq_true c57, il1, il2, il3, ↓reduceIte]) (by simp only [kBo, vBo, rBo, bBo, eq_false c6, eq_false c20, eq_true c57, il1, il2, il3, ↓reduceIte]) (by simp only [kBo, vBo, rBo, bBo, eq_false c6, eq_false c20, eq_true c57, il1, il2, il3, ↓reduceIte])
      ·
        refine lv_bipush (v := 20) hx hb dX10_boxes_60 (by decide) ?_
        refine lv_goto (tgt := 66) hx hb dX10_boxes_62 (by decide) ?_
        refine m_st S hG hL 29 rfl (show vp_in k 12 from fIs_in c6 h1) dX10_boxes_66 (fun H locs hG hL => ?_)
        refine lv_aload_n hx hb dX10_boxes_67 rfl (lv_at hl 1 rfl) ?_
        refine m_ga S hG 29 rfl (hts (.fieldLink RX10 82 "SwarmLineModel" "keeperBoxes" "[I") (by decide +kernel)) dX10_boxes_68 ?_
        refine lv_iload_n hx hb dX10_boxes_71 rfl (lv_at hl 2 rfl) ?_
        refine m_ld (v := 20) S hG 29 rfl (show vp_in k 12 from fIs_in c6 h1) dX10_boxes_72 (up2_ss ..) ?_
        exact m_iret S hr hlocks hG hL dX10_boxes_73 (by simp only [kBo, vBo, rBo, bBo, eq_false c6, eq_false c20, eq_false c57, il1, il2, il3, ↓reduceIte]) (by simp only [kBo, vBo, rBo, bBo, eq_false c6, eq_false c20, eq_false c57, il1, il2, il3, ↓reduceIte]) (by simp only [kBo, vBo, rBo, bBo, eq_false c6, eq_false c20, eq_false c57, il1, il2, il3, ↓reduceIte])
    ·
      refine lv_iconst (v := 2) hx hb dX10_boxes_23 (by decide) ?_
      refine lv_goto (tgt := 28) hx hb dX10_boxes_24 (by decide) ?_
      refine m_pi S hG hL 0 rfl (hts (.fieldLink RX10 180 "SwarmLineModel" "thrown" "I") (by decide +kernel)) dX10_boxes_28 (fun H locs hG hL => ?_)
      refine lv_aload_n hx hb dX10_boxes_31 rfl (lv_at hl 0 rfl) ?_
      refine m_gi (v := 2) S hG 0 rfl (hts (.fieldLink RX10 180 "SwarmLineModel" "thrown" "I") (by decide +kernel)) dX10_boxes_32 rfl ?_
      refine lv_if_le (tgt := 40) hx hb dX10_boxes_35 (by decide) (fun c => absurd c (by decide)) (fun _ => ?_)
      refine lv_iconst (v := 0) hx hb dX10_boxes_38 (by decide) ?_
      exact m_iret S hr hlocks hG hL dX10_boxes_39 (by simp only [kBo, vBo, rBo, bBo, eq_false c6, eq_true c20, il1, il2, il3, ↓reduceIte]) (by simp only [kBo, vBo, rBo, bBo, eq_false c6, eq_true c20, il1, il2, il3, ↓reduceIte]) (by simp only [kBo, vBo, rBo, bBo, eq_false c6, eq_true c20, il1, il2, il3, ↓reduceIte])
  ·
    refine lv_iconst (v := 1) hx hb dX10_boxes_9 (by decide) ?_
    refine lv_goto (tgt := 28) hx hb dX10_boxes_10 (by decide) ?_
    refine m_pi S hG hL 0 rfl (hts (.fieldLink RX10 180 "SwarmLineModel" "thrown" "I") (by decide +kernel)) dX10_boxes_28 (fun H locs hG hL => ?_)
    refine lv_aload_n hx hb dX10_boxes_31 rfl (lv_at hl 0 rfl) ?_
    refine m_gi (v := 1) S hG 0 rfl (hts (.fieldLink RX10 180 "SwarmLineModel" "thrown" "I") (by decide +kernel)) dX10_boxes_32 rfl ?_
    refine lv_if_le (tgt := 40) hx hb dX10_boxes_35 (by decide) (fun c => absurd c (by decide)) (fun _ => ?_)
    refine lv_iconst (v := 0) hx hb dX10_boxes_38 (by decide) ?_
    exact m_iret S hr hlocks hG hL dX10_boxes_39 (by simp only [kBo, vBo, rBo, bBo, eq_true c6, il1, il2, il3, ↓reduceIte]) (by simp only [kBo, vBo, rBo, bBo, eq_true c6, il1, il2, il3, ↓reduceIte]) (by simp only [kBo, vBo, rBo, bBo, eq_true c6, il1, il2, il3, ↓reduceIte])
set_option maxHeartbeats 4000000 in
set_option maxRecDepth 100000 in
theorem c_X10_onDuty {l : Launch} {D : va_G} {cI cZ cB cO cR cJ : ClassId} {Hb : Heap} {lv : Nat → Prop} {ad : Nat → Nat} {ce0 : Nat → va_E} (hlv : lM lv) (k : Int32) (s : Nat → Int32) (r : Nat → Nat → Int32) (hk : vp_in k 12) : mMet l D cI cZ cB cO cR cJ Hb lv ad ce0 yX10_onDuty wsX10_onDuty 0 0 [.ref (ad 0), .int k] s r (some (.int (fOn k s r))) s r := by
  refine Met.ofW (cc := cX10_onDuty) (maxL := 3) (ret := (some .boolean)) (by decide) rfl ?_
  intro p0 e0 s0 m0 args below meth c0 s₁ B hml hv
  obtain ⟨rfl, hG, hK⟩ := hv
  have hx := B.exec
  have hb := B.bytes
  have hr := B.returns
  have hts := atoms_spec (ws := wsX10_onDuty) B.pre
  have hown : s0.vm.findClass RX10 = some m0.cls := findClass_of_methodNamed B.named
  have hlocks := B.notSynchronized
  have S : mX p0 m0 c0 cX10_onDuty 3 s0 _ wsX10_onDuty D cI cZ cB cO cR cJ lv := ⟨⟨hx, hb, hml, hown, hts⟩, hK, fun w h => List.mem_cons_of_mem _ (List.mem_append_right _ h), hlv⟩
  have hL : gL Hb [] := gL.nil
  have hl := lv_entry ([.ref (ad 0), .int k]) (n := 3) (Nat.le_of_ble_eq_true rfl)
  rw [lg_entry_eq]
  generalize (lg_sl ([.ref (ad 0), .int k]) ++ List.replicate (3 - (lg_sl ([.ref (ad 0), .int k])).length) Slot.unset).toArray = ls at hl ⊢
  have hl : lv_has ls 3 [(0, .ref (ad 0)), (1, .int k)] := hl
  refine lv_aload_n hx hb dX10_onDuty_0 rfl (lv_at hl 0 rfl) ?_
  refine m_gi (v := s 1) S hG 1 rfl (hts (.fieldLink RX10 206 "SwarmLineModel" "now" "I") (by decide +kernel)) dX10_onDuty_1 rfl ?_
  refine lv_bipush (v := 24) hx hb dX10_onDuty_4 (by decide) ?_
  refine lv_irem hx hb dX10_onDuty_6 (by decide) ?_
  refine lv_istore_n (lv' := [(2, .int ((s 1) - (s 1) / 24 * 24)), (0, .ref (ad 0)), (1, .int k)]) hx hb dX10_onDuty_7 rfl hl (by decide) rfl (fun ls hl => ?_)
  refine lv_aload_n hx hb dX10_onDuty_8 rfl (lv_at hl 1 rfl) ?_
  refine m_ga S hG 32 rfl (hts (.fieldLink RX10 91 "SwarmLineModel" "keeperFrom" "[I") (by decide +kernel)) dX10_onDuty_9 ?_
  refine lv_iload_n hx hb dX10_onDuty_12 rfl (lv_at hl 2 rfl) ?_
  refine m_ld (v := r 32 (Int32.toNatClampNeg k)) S hG 32 rfl (show vp_in k 12 from by assumption) dX10_onDuty_13 (rfl) ?_
  refine lv_aload_n hx hb dX10_onDuty_14 rfl (lv_at hl 1 rfl) ?_
  refine m_ga S hG 33 rfl (hts (.fieldLink RX10 94 "SwarmLineModel" "keeperTo" "[I") (by decide +kernel)) dX10_onDuty_15 ?_
  refine lv_iload_n hx hb dX10_onDuty_18 rfl (lv_at hl 2 rfl) ?_
  refine m_ld (v := r 33 (Int32.toNatClampNeg k)) S hG 33 rfl (show vp_in k 12 from by assumption) dX10_onDuty_19 (rfl) ?_
  refine lv_icmp_gt (tgt := 51) hx hb dX10_onDuty_20 (by decide) (fun c20 => ?_) (fun c20 => ?_)
  ·
    refine lv_iload_n hx hb dX10_onDuty_51 rfl (lv_at hl 0 rfl) ?_
    refine lv_aload_n hx hb dX10_onDuty_52 rfl (lv_at hl 1 rfl) ?_
    refine m_ga S hG 32 rfl (hts (.fieldLink RX10 91 "SwarmLineModel" "keeperFrom" "[I") (by decide +kernel)) dX10_onDuty_53 ?_
    refine lv_iload_n hx hb dX10_onDuty_56 rfl (lv_at hl 2 rfl) ?_
    refine m_ld (v := r 32 (Int32.toNatClampNeg k)) S hG 32 rfl (show vp_in k 12 from by assumption) dX10_onDuty_57 (rfl) ?_
    refine lv_icmp_ge (tgt := 71) hx hb dX10_onDuty_58 (by decide) (fun c58 => ?_) (fun c58 => ?_)
    ·
      refine lv_iconst (v := 1) hx hb dX10_onDuty_71 (by decide) ?_
      refine lv_goto (tgt := 76) hx hb dX10_onDuty_72 (by decide) ?_
      exact m_zret S hr hlocks (by decide) hG hL dX10_onDuty_76 (by simp only [fOn, eq_true c20, eq_true c58, il1, il2, il3, ↓reduceIte]) (by rfl) (by rfl)
    ·
      refine lv_iload_n hx hb dX10_onDuty_61 rfl (lv_at hl 0 rfl) ?_
      refine lv_aload_n hx hb dX10_onDuty_62 rfl (lv_at hl 1 rfl) ?_
      refine m_ga S hG 33 rfl (hts (.fieldLink RX10 94 "SwarmLineModel" "keeperTo" "[I") (by decide +kernel)) dX10_onDuty_63 ?_
      refine lv_iload_n hx hb dX10_onDuty_66 rfl (lv_at hl 2 rfl) ?_
      refine m_ld (v := r 33 (Int32.toNatClampNeg k)) S hG 33 rfl (show vp_in k 12 from by assumption) dX10_onDuty_67 (rfl) ?_
      refine lv_icmp_gt (tgt := 75) hx hb dX10_onDuty_68 (by decide) (fun c68 => ?_) (fun c68 => ?_)
      ·
        refine lv_iconst (v := 0) hx hb dX10_onDuty_75 (by decide) ?_
        exact m_zret S hr hlocks (by decide) hG hL dX10_onDuty_76 (by simp only [fOn, eq_true c20, eq_false c58, eq_true c68, il1, il2, il3, ↓reduceIte]) (by rfl) (by rfl)
      ·
        refine lv_iconst (v := 1) hx hb dX10_onDuty_71 (by decide) ?_
        refine lv_goto (tgt := 76) hx hb dX10_onDuty_72 (by decide) ?_
        exact m_zret S hr hlocks (by decide) hG hL dX10_onDuty_76 (by simp only [fOn, eq_true c20, eq_false c58, eq_false c68, il1, il2, il3, ↓reduceIte]) (by rfl) (by rfl)
  ·
    refine lv_iload_n hx hb dX10_onDuty_23 rfl (lv_at hl 0 rfl) ?_
    refine lv_aload_n hx hb dX10_onDuty_24 rfl (lv_at hl 1 rfl) ?_
    refine m_ga S hG 32 rfl (hts (.fieldLink RX10 91 "SwarmLineModel" "keeperFrom" "[I") (by decide +kernel)) dX10_onDuty_25 ?_
    refine lv_iload_n hx hb dX10_onDuty_28 rfl (lv_at hl 2 rfl) ?_
    refine m_ld (v := r 32 (Int32.toNatClampNeg k)) S hG 32 rfl (show vp_in k 12 from by assumption) dX10_onDuty_29 (rfl) ?_
    refine lv_icmp_lt (tgt := 47) hx hb dX10_onDuty_30 (by decide) (fun c30 => ?_) (fun c30 => ?_)
    ·
      refine lv_iconst (v := 0) hx hb dX10_onDuty_47 (by decide) ?_
      refine lv_goto (tgt := 76) hx hb dX10_onDuty_48 (by decide) ?_
      exact m_zret S hr hlocks (by decide) hG hL dX10_onDuty_76 (by simp only [fOn, eq_false c20, eq_true c30, il1, il2, il3, ↓reduceIte]) (by rfl) (by rfl)
    ·
      refine lv_iload_n hx hb dX10_onDuty_33 rfl (lv_at hl 0 rfl) ?_
      refine lv_aload_n hx hb dX10_onDuty_34 rfl (lv_at hl 1 rfl) ?_
      refine m_ga S hG 33 rfl (hts (.fieldLink RX10 94 "SwarmLineModel" "keeperTo" "[I") (by decide +kernel)) dX10_onDuty_35 ?_
      refine lv_iload_n hx hb dX10_onDuty_38 rfl (lv_at hl 2 rfl) ?_
      refine m_ld (v := r 33 (Int32.toNatClampNeg k)) S hG 33 rfl (show vp_in k 12 from by assumption) dX10_onDuty_39 (rfl) ?_
      refine lv_icmp_gt (tgt := 47) hx hb dX10_onDuty_40 (by decide) (fun c40 => ?_) (fun c40 => ?_)
      ·
        refine lv_iconst (v := 0) hx hb dX10_onDuty_47 (by decide) ?_
        refine lv_goto (tgt := 76) hx hb dX10_onDuty_48 (by decide) ?_
        exact m_zret S hr hlocks (by decide) hG hL dX10_onDuty_76 (by simp only [fOn, eq_false c20, eq_false c30, eq_true c40, il1, il2, il3, ↓reduceIte]) (by rfl) (by rfl)
      ·
        refine lv_iconst (v := 1) hx hb dX10_onDuty_43 (by decide) ?_
        refine lv_goto (tgt := 76) hx hb dX10_onDuty_44 (by decide) ?_
        exact m_zret S hr hlocks (by decide) hG hL dX10_onDuty_76 (by simp only [fOn, eq_false c20, eq_false c30, eq_false c40, il1, il2, il3, ↓reduceIte]) (by rfl) (by rfl)
set_option maxHeartbeats 4000000 in
set_option maxRecDepth 100000 in
theorem c_X10_against {l : Launch} {D : va_G} {cI cZ cB cO cR cJ : ClassId} {Hb : Heap} {lv : Nat → Prop} {ad : Nat → Nat} {ce0 : Nat → va_E} (hlv : lM lv) (k : Int32) (c : Int32) (s : Nat → Int32) (r : Nat → Nat → Int32) (hk : vp_in k 12) (hc : vp_in c 60) : mMet l D cI cZ cB cO cR cJ Hb lv ad ce0 yX10_against wsX10_against 1 22 [.ref (ad 0), .int k, .int c] s r (some (.int (fAg k c s r))) s r := by
  refine Met.ofW (cc := cX10_against) (maxL := 3) (ret := (some .int)) (by decide) rfl ?_
  intro p0 e0 s0 m0 args below meth c0 s₁ B hml hv
  obtain ⟨rfl, hG, hK⟩ := hv
  have hx := B.exec
  have hb := B.bytes
  have hr := B.returns
  have hts := atoms_spec (ws := wsX10_against) B.pre
  have hown : s0.vm.findClass RX10 = some m0.cls := findClass_of_methodNamed B.named
  have hlocks := B.notSynchronized
  have S : mX p0 m0 c0 cX10_against 3 s0 _ wsX10_against D cI cZ cB cO cR cJ lv := ⟨⟨hx, hb, hml, hown, hts⟩, hK, fun w h => List.mem_cons_of_mem _ (List.mem_append_right _ h), hlv⟩
  have hL : gL Hb [] := gL.nil
  have hl := lv_entry ([.ref (ad 0), .int k, .int c]) (n := 3) (Nat.le_of_ble_eq_true rfl)
  rw [lg_entry_eq]
  generalize (lg_sl ([.ref (ad 0), .int k, .int c]) ++ List.replicate (3 - (lg_sl ([.ref (ad 0), .int k, .int c])).length) Slot.unset).toArray = ls at hl ⊢
  have hl : lv_has ls 3 [(0, .ref (ad 0)), (1, .int k), (2, .int c)] := hl
  refine lv_aload_n hx hb dX10_against_0 rfl (lv_at hl 0 rfl) ?_
  refine lv_iload_n hx hb dX10_against_1 rfl (lv_at hl 1 rfl) ?_
  refine m_callV (n := 1) (As := [.int k]) (rest := []) (st1 := .int (fOn k s r) :: []) S hG hL (c_X10_onDuty hlv k s r (by assumption)) gX10_against_X10_onDuty rfl (by decide +kernel) ⟨Nat.le_of_ble_eq_true rfl, Nat.le_of_ble_eq_true rfl⟩ rfl hl.1 rfl (Nat.le_of_ble_eq_true rfl) dX10_against_2 ⟨Nat.zero_le _, Nat.zero_le _⟩ (rfl) (fun H locs hG hL => ?_)
  refine lv_if_ne (tgt := 12) hx hb dX10_against_5 (by decide) (fun c5 => ?_) (fun c5 => ?_)
  ·
    refine lv_aload_n hx hb dX10_against_12 rfl (lv_at hl 0 rfl) ?_
    refine m_ga S hG 34 rfl (hts (.fieldLink RX10 97 "SwarmLineModel" "keeperState" "[I") (by decide +kernel)) dX10_against_13 ?_
    refine lv_iload_n hx hb dX10_against_16 rfl (lv_at hl 1 rfl) ?_
    refine m_ld (v := r 34 (Int32.toNatClampNeg k)) S hG 34 rfl (show vp_in k 12 from by assumption) dX10_against_17 (rfl) ?_
    refine lv_if_eq (tgt := 25) hx hb dX10_against_18 (by decide) (fun c18 => ?_) (fun c18 => ?_)
    ·
      refine lv_aload_n hx hb dX10_against_25 rfl (lv_at hl 0 rfl) ?_
      refine m_ga S hG 29 rfl (hts (.fieldLink RX10 82 "SwarmLineModel" "keeperBoxes" "[I") (by decide +kernel)) dX10_against_26 ?_
      refine lv_iload_n hx hb dX10_against_29 rfl (lv_at hl 1 rfl) ?_
      refine m_ld (v := r 29 (Int32.toNatClampNeg k)) S hG 29 rfl (show vp_in k 12 from by assumption) dX10_against_30 (rfl) ?_
      refine lv_if_ne (tgt := 38) hx hb dX10_against_31 (by decide) (fun c31 => ?_) (fun c31 => ?_)
      ·
        refine lv_aload_n hx hb dX10_against_38 rfl (lv_at hl 0 rfl) ?_
        refine m_ga S hG 30 rfl (hts (.fieldLink RX10 85 "SwarmLineModel" "keeperLadder" "[I") (by decide +kernel)) dX10_against_39 ?_
        refine lv_iload_n hx hb dX10_against_42 rfl (lv_at hl 1 rfl) ?_
        refine m_ld (v := r 30 (Int32.toNatClampNeg k)) S hG 30 rfl (show vp_in k 12 from by assumption) dX10_against_43 (rfl) ?_
        refine lv_aload_n hx hb dX10_against_44 rfl (lv_at hl 0 rfl) ?_
        refine m_ga S hG 45 rfl (hts (.fieldLink RX10 125 "SwarmLineModel" "caseHigh" "[I") (by decide +kernel)) dX10_against_45 ?_
        refine lv_iload_n hx hb dX10_against_48 rfl (lv_at hl 2 rfl) ?_
        refine m_ld (v := r 45 (Int32.toNatClampNeg c)) S hG 45 rfl (show vp_in c 60 from by assumption) dX10_against_49 (rfl) ?_
        refine lv_icmp_ge (tgt := 57) hx hb dX10_against_50 (by decide) (fun c50 => ?_) (fun c50 => ?_)
        ·
          refine lv_iconst (v := 0) hx hb dX10_against_57 (by decide) ?_
          exact m_iret S hr hlocks hG hL dX10_against_58 (by simp only [fAg, eq_false c5, eq_true c18, eq_false c31, eq_true c50, il1, il2, il3, ↓reduceIte]) (by rfl) (by rfl)
        ·
          refine lv_iconst (v := 4) hx hb dX10_against_53 (by decide) ?_
          refine lv_goto (tgt := 58) hx hb dX10_against_54 (by decide) ?_
          exact m_iret S hr hlocks hG hL dX10_against_58 (by simp only [fAg, eq_false c5, eq_true c18, eq_false c31, eq_false c50, il1, il2, il3, ↓reduceIte]) (by rfl) (by rfl)
      ·
        refine lv_iconst (v := 3) hx hb dX10_against_34 (by decide) ?_
        refine lv_goto (tgt := 58) hx hb dX10_against_35 (by decide) ?_
        exact m_iret S hr hlocks hG hL dX10_against_58 (by simp only [fAg, eq_false c5, eq_true c18, eq_true c31, il1, il2, il3, ↓reduceIte]) (by rfl) (by rfl)
    ·
      refine lv_iconst (v := 2) hx hb dX10_against_21 (by decide) ?_
      refine lv_goto (tgt := 58) hx hb dX10_against_22 (by decide) ?_
      exact m_iret S hr hlocks hG hL dX10_against_58 (by simp only [fAg, eq_false c5, eq_false c18, il1, il2, il3, ↓reduceIte]) (by rfl) (by rfl)
  ·
    refine lv_iconst (v := 1) hx hb dX10_against_8 (by decide) ?_
    refine lv_goto (tgt := 58) hx hb dX10_against_9 (by decide) ?_
    exact m_iret S hr hlocks hG hL dX10_against_58 (by simp only [fAg, eq_true c5, il1, il2, il3, ↓reduceIte]) (by rfl) (by rfl)
set_option maxHeartbeats 4000000 in
set_option maxRecDepth 100000 in
theorem c_X10_wayHours {l : Launch} {D : va_G} {cI cZ cB cO cR cJ : ClassId} {Hb : Heap} {lv : Nat → Prop} {ad : Nat → Nat} {ce0 : Nat → va_E} (hlv : lM lv) (k : Int32) (c : Int32) (s : Nat → Int32) (r : Nat → Nat → Int32) (hk : vp_in k 12) (hc : vp_in c 60) (hp : ¬ r 31 (Int32.toNatClampNeg k) = 0) : mMet l D cI cZ cB cO cR cJ Hb lv ad ce0 yX10_wayHours wsX10_wayHours 1 25 [.ref (ad 0), .int k, .int c] s r (some (.int (fWa k c r))) s r := by
  refine Met.ofW (cc := cX10_wayHours) (maxL := 5) (ret := (some .int)) (by decide) rfl ?_
  intro p0 e0 s0 m0 args below meth c0 s₁ B hml hv
  obtain ⟨rfl, hG, hK⟩ := hv
  have hx := B.exec
  have hb := B.bytes
  have hr := B.returns
  have hts := atoms_spec (ws := wsX10_wayHours) B.pre
  have hown : s0.vm.findClass RX10 = some m0.cls := findClass_of_methodNamed B.named
  have hlocks := B.notSynchronized
  have S : mX p0 m0 c0 cX10_wayHours 5 s0 _ wsX10_wayHours D cI cZ cB cO cR cJ lv := ⟨⟨hx, hb, hml, hown, hts⟩, hK, fun w h => List.mem_cons_of_mem _ (List.mem_append_right _ h), hlv⟩
  have hL : gL Hb [] := gL.nil
  have hl := lv_entry ([.ref (ad 0), .int k, .int c]) (n := 5) (Nat.le_of_ble_eq_true rfl)
  rw [lg_entry_eq]
  generalize (lg_sl ([.ref (ad 0), .int k, .int c]) ++ List.replicate (5 - (lg_sl ([.ref (ad 0), .int k, .int c])).length) Slot.unset).toArray = ls at hl ⊢
  have hl : lv_has ls 5 [(0, .ref (ad 0)), (1, .int k), (2, .int c)] := hl
  refine lv_aload_n hx hb dX10_wayHours_0 rfl (lv_at hl 0 rfl) ?_
  refine m_ga S hG 27 rfl (hts (.fieldLink RX10 76 "SwarmLineModel" "keeperX" "[I") (by decide +kernel)) dX10_wayHours_1 ?_
  refine lv_iload_n hx hb dX10_wayHours_4 rfl (lv_at hl 1 rfl) ?_
  refine m_ld (v := r 27 (Int32.toNatClampNeg k)) S hG 27 rfl (show vp_in k 12 from by assumption) dX10_wayHours_5 (rfl) ?_
  refine lv_aload_n hx hb dX10_wayHours_6 rfl (lv_at hl 0 rfl) ?_
  refine m_ga S hG 28 rfl (hts (.fieldLink RX10 79 "SwarmLineModel" "keeperY" "[I") (by decide +kernel)) dX10_wayHours_7 ?_
  refine lv_iload_n hx hb dX10_wayHours_10 rfl (lv_at hl 1 rfl) ?_
  refine m_ld (v := r 28 (Int32.toNatClampNeg k)) S hG 28 rfl (show vp_in k 12 from by assumption) dX10_wayHours_11 (rfl) ?_
  refine lv_aload_n hx hb dX10_wayHours_12 rfl (lv_at hl 0 rfl) ?_
  refine m_ga S hG 42 rfl (hts (.fieldLink RX10 115 "SwarmLineModel" "caseX" "[I") (by decide +kernel)) dX10_wayHours_13 ?_
  refine lv_iload_n hx hb dX10_wayHours_16 rfl (lv_at hl 2 rfl) ?_
  refine m_ld (v := r 42 (Int32.toNatClampNeg c)) S hG 42 rfl (show vp_in c 60 from by assumption) dX10_wayHours_17 (rfl) ?_
  refine lv_aload_n hx hb dX10_wayHours_18 rfl (lv_at hl 0 rfl) ?_
  refine m_ga S hG 43 rfl (hts (.fieldLink RX10 118 "SwarmLineModel" "caseY" "[I") (by decide +kernel)) dX10_wayHours_19 ?_
  refine lv_iload_n hx hb dX10_wayHours_22 rfl (lv_at hl 2 rfl) ?_
  refine m_ld (v := r 43 (Int32.toNatClampNeg c)) S hG 43 rfl (show vp_in c 60 from by assumption) dX10_wayHours_23 (rfl) ?_
  refine m_callP (n := 4) (As := [.int (r 27 (Int32.toNatClampNeg k)), .int (r 28 (Int32.toNatClampNeg k)), .int (r 42 (Int32.toNatClampNeg c)), .int (r 43 (Int32.toNatClampNeg c))]) (rest := []) (st1 := .int (fSt (r 27 (Int32.toNatClampNeg k)) (r 28 (Int32.toNatClampNeg k)) (r 42 (Int32.toNatClampNeg c)) (r 43 (Int32.toNatClampNeg c))) :: []) S.1 (c_X10_steps (r 27 (Int32.toNatClampNeg k)) (r 28 (Int32.toNatClampNeg k)) (r 42 (Int32.toNatClampNeg c)) (r 43 (Int32.toNatClampNeg c))) gX10_wayHours_X10_steps rfl (by decide +kernel) ⟨Nat.le_of_ble_eq_true rfl, Nat.le_of_ble_eq_true rfl⟩ rfl hl.1 rfl (Nat.le_of_ble_eq_true rfl) dX10_wayHours_24 ⟨Nat.zero_le _, Nat.zero_le _⟩ rfl ?_
  refine lv_istore_n (lv' := [(3, .int (fSt (r 27 (Int32.toNatClampNeg k)) (r 28 (Int32.toNatClampNeg k)) (r 42 (Int32.toNatClampNeg c)) (r 43 (Int32.toNatClampNeg c)))), (0, .ref (ad 0)), (1, .int k), (2, .int c)]) hx hb dX10_wayHours_27 rfl hl (by decide) rfl (fun ls hl => ?_)
  refine lv_iload_n hx hb dX10_wayHours_28 rfl (lv_at hl 0 rfl) ?_
  refine lv_aload_n hx hb dX10_wayHours_29 rfl (lv_at hl 1 rfl) ?_
  refine m_ga S hG 31 rfl (hts (.fieldLink RX10 88 "SwarmLineModel" "keeperPace" "[I") (by decide +kernel)) dX10_wayHours_30 ?_
  refine lv_iload_n hx hb dX10_wayHours_33 rfl (lv_at hl 2 rfl) ?_
  refine m_ld (v := r 31 (Int32.toNatClampNeg k)) S hG 31 rfl (show vp_in k 12 from by assumption) dX10_wayHours_34 (rfl) ?_
  refine lv_idiv hx hb dX10_wayHours_35 (hp) ?_
  refine lv_iload_n hx hb dX10_wayHours_36 rfl (lv_at hl 0 rfl) ?_
  refine lv_aload_n hx hb dX10_wayHours_37 rfl (lv_at hl 1 rfl) ?_
  refine m_ga S hG 31 rfl (hts (.fieldLink RX10 88 "SwarmLineModel" "keeperPace" "[I") (by decide +kernel)) dX10_wayHours_38 ?_
  refine lv_iload_n hx hb dX10_wayHours_41 rfl (lv_at hl 2 rfl) ?_
  refine m_ld (v := r 31 (Int32.toNatClampNeg k)) S hG 31 rfl (show vp_in k 12 from by assumption) dX10_wayHours_42 (rfl) ?_
  refine lv_irem hx hb dX10_wayHours_43 (hp) ?_
  refine lv_if_le (tgt := 51) hx hb dX10_wayHours_44 (by decide) (fun c44 => ?_) (fun c44 => ?_)
  ·
    refine lv_iconst (v := 0) hx hb dX10_wayHours_51 (by decide) ?_
    refine lv_iadd hx hb dX10_wayHours_52 ?_
    refine lv_istore (lv' := [(4, .int (((fSt (r 27 (Int32.toNatClampNeg k)) (r 28 (Int32.toNatClampNeg k)) (r 42 (Int32.toNatClampNeg c)) (r 43 (Int32.toNatClampNeg c))) / (r 31 (Int32.toNatClampNeg k))) + 0)), (3, .int (fSt (r 27 (Int32.toNatClampNeg k)) (r 28 (Int32.toNatClampNeg k)) (r 42 (Int32.toNatClampNeg c)) (r 43 (Int32.toNatClampNeg c)))), (0, .ref (ad 0)), (1, .int k), (2, .int c)]) hx hb dX10_wayHours_53 hl (by decide) rfl (fun ls hl => ?_)
    refine lv_iload hx hb dX10_wayHours_55 (lv_at hl 0 rfl) ?_
    refine lv_iconst (v := 1) hx hb dX10_wayHours_57 (by decide) ?_
    refine lv_icmp_ge (tgt := 65) hx hb dX10_wayHours_58 (by decide) (fun c58 => ?_) (fun c58 => ?_)
    ·
      refine lv_iload hx hb dX10_wayHours_65 (lv_at hl 0 rfl) ?_
      exact m_iret S hr hlocks hG hL dX10_wayHours_67 (by simp only [fWa, wHo, wSt, eq_true c44, eq_true c58, il1, il2, il3, ↓reduceIte]) (by rfl) (by rfl)
    ·
      refine lv_iconst (v := 1) hx hb dX10_wayHours_61 (by decide) ?_
      refine lv_goto (tgt := 67) hx hb dX10_wayHours_62 (by decide) ?_
      exact m_iret S hr hlocks hG hL dX10_wayHours_67 (by simp only [fWa, wHo, wSt, eq_true c44, eq_false c58, il1, il2, il3, ↓reduceIte]) (by rfl) (by rfl)
  ·
    refine lv_iconst (v := 1) hx hb dX10_wayHours_47 (by decide) ?_
    refine lv_goto (tgt := 52) hx hb dX10_wayHours_48 (by decide) ?_
    refine lv_iadd hx hb dX10_wayHours_52 ?_
    refine lv_istore (lv' := [(4, .int (((fSt (r 27 (Int32.toNatClampNeg k)) (r 28 (Int32.toNatClampNeg k)) (r 42 (Int32.toNatClampNeg c)) (r 43 (Int32.toNatClampNeg c))) / (r 31 (Int32.toNatClampNeg k))) + 1)), (3, .int (fSt (r 27 (Int32.toNatClampNeg k)) (r 28 (Int32.toNatClampNeg k)) (r 42 (Int32.toNatClampNeg c)) (r 43 (Int32.toNatClampNeg c)))), (0, .ref (ad 0)), (1, .int k), (2, .int c)]) hx hb dX10_wayHours_53 hl (by decide) rfl (fun ls hl => ?_)
    refine lv_iload hx hb dX10_wayHours_55 (lv_at hl 0 rfl) ?_
    refine lv_iconst (v := 1) hx hb dX10_wayHours_57 (by decide) ?_
    refine lv_icmp_ge (tgt := 65) hx hb dX10_wayHours_58 (by decide) (fun c58 => ?_) (fun c58 => ?_)
    ·
      refine lv_iload hx hb dX10_wayHours_65 (lv_at hl 0 rfl) ?_
      exact m_iret S hr hlocks hG hL dX10_wayHours_67 (by simp only [fWa, wHo, wSt, eq_false c44, eq_true c58, il1, il2, il3, ↓reduceIte]) (by rfl) (by rfl)
    ·
      refine lv_iconst (v := 1) hx hb dX10_wayHours_61 (by decide) ?_
      refine lv_goto (tgt := 67) hx hb dX10_wayHours_62 (by decide) ?_
      exact m_iret S hr hlocks hG hL dX10_wayHours_67 (by simp only [fWa, wHo, wSt, eq_false c44, eq_false c58, il1, il2, il3, ↓reduceIte]) (by rfl) (by rfl)
set_option maxHeartbeats 4000000 in
set_option maxRecDepth 100000 in
theorem c_X10_look {l : Launch} {D : va_G} {cI cZ cB cO cR cJ : ClassId} {Hb : Heap} {lv : Nat → Prop} {ad : Nat → Nat} {ce0 : Nat → va_E} (hlv : lM lv) (h : Int32) (w : Int32) (s : Nat → Int32) (r : Nat → Nat → Int32) (h1 : (s 6).toInt ≤ 20) : mMet l D cI cZ cB cO cR cJ Hb lv ad ce0 yX10_look wsX10_look 1 22 [.ref (ad 0), .int h, .int w] s r (some (.int (vLo h w s r))) (upd s 0 (kTo (s 6) h 4 w)) r := by
  refine Met.ofW (cc := cX10_look) (maxL := 3) (ret := (some .int)) (by decide) rfl ?_
  intro p0 e0 s0 m0 args below meth c0 s₁ B hml hv
  obtain ⟨rfl, hG, hK⟩ := hv
  have hx := B.exec
  have hb := B.bytes
  have hr := B.returns
  have hts := atoms_spec (ws := wsX10_look) B.pre
  have hown : s0.vm.findClass RX10 = some m0.cls := findClass_of_methodNamed B.named
  have hlocks := B.notSynchronized
  have S : mX p0 m0 c0 cX10_look 3 s0 _ wsX10_look D cI cZ cB cO cR cJ lv := ⟨⟨hx, hb, hml, hown, hts⟩, hK, fun w h => List.mem_cons_of_mem _ (List.mem_append_right _ h), hlv⟩
  have hL : gL Hb [] := gL.nil
  have hl := lv_entry ([.ref (ad 0), .int h, .int w]) (n := 3) (Nat.le_of_ble_eq_true rfl)
  rw [lg_entry_eq]
  generalize (lg_sl ([.ref (ad 0), .int h, .int w]) ++ List.replicate (3 - (lg_sl ([.ref (ad 0), .int h, .int w])).length) Slot.unset).toArray = ls at hl ⊢
  have hl : lv_has ls 3 [(0, .ref (ad 0)), (1, .int h), (2, .int w)] := hl
  refine lv_aload_n hx hb dX10_look_0 rfl (lv_at hl 0 rfl) ?_
  refine lv_aload_n hx hb dX10_look_1 rfl (lv_at hl 0 rfl) ?_
  refine lv_iload_n hx hb dX10_look_2 rfl (lv_at hl 1 rfl) ?_
  refine m_callV (n := 1) (As := [.int h]) (rest := [.ref (ad 0)]) (st1 := .int (fIs (s 6) h) :: [.ref (ad 0)]) S hG hL (c_X10_isHive hlv h s r ) gX10_look_X10_isHive rfl (by decide +kernel) ⟨Nat.le_of_ble_eq_true rfl, Nat.le_of_ble_eq_true rfl⟩ rfl hl.1 rfl (Nat.le_of_ble_eq_true rfl) dX10_look_3 ⟨Nat.zero_le _, Nat.zero_le _⟩ (rfl) (fun H locs hG hL => ?_)
  refine lv_if_ne (tgt := 13) hx hb dX10_look_6 (by decide) (fun c6 => ?_) (fun c6 => ?_)
  ·
    refine lv_iload_n hx hb dX10_look_13 rfl (lv_at hl 2 rfl) ?_
    refine lv_iconst (v := 0) hx hb dX10_look_14 (by decide) ?_
    refine lv_iconst (v := 4) hx hb dX10_look_15 (by decide) ?_
    refine m_callP (n := 3) (As := [.int w, .int 0, .int 4]) (rest := [.ref (ad 0)]) (st1 := .int (fIn w 0 4) :: [.ref (ad 0)]) S.1 (c_X10_isIn w 0 4) gX10_look_X10_isIn rfl (by decide +kernel) ⟨Nat.le_of_ble_eq_true rfl, Nat.le_of_ble_eq_true rfl⟩ rfl hl.1 rfl (Nat.le_of_ble_eq_true rfl) dX10_look_16 ⟨Nat.zero_le _, Nat.zero_le _⟩ rfl ?_
    refine lv_if_ne (tgt := 26) hx hb dX10_look_19 (by decide) (fun c19 => ?_) (fun c19 => ?_)
    ·
      refine lv_iconst (v := 0) hx hb dX10_look_26 (by decide) ?_
      refine m_pi S hG hL 0 rfl (hts (.fieldLink RX10 180 "SwarmLineModel" "thrown" "I") (by decide +kernel)) dX10_look_27 (fun H locs hG hL => ?_)
      refine lv_aload_n hx hb dX10_look_30 rfl (lv_at hl 0 rfl) ?_
      refine m_gi (v := 0) S hG 0 rfl (hts (.fieldLink RX10 180 "SwarmLineModel" "thrown" "I") (by decide +kernel)) dX10_look_31 rfl ?_
      refine lv_if_le (tgt := 39) hx hb dX10_look_34 (by decide) (fun _ => ?_) (fun c => absurd c (by decide))
      refine lv_iload_n hx hb dX10_look_39 rfl (lv_at hl 2 rfl) ?_
      refine lv_if_ne (tgt := 52) hx hb dX10_look_40 (by decide) (fun c40 => ?_) (fun c40 => ?_)
      ·
        refine lv_iload_n hx hb dX10_look_52 rfl (lv_at hl 2 rfl) ?_
        refine lv_iconst (v := 1) hx hb dX10_look_53 (by decide) ?_
        refine lv_icmp_ne (tgt := 66) hx hb dX10_look_54 (by decide) (fun c54 => ?_) (fun c54 => ?_)
        ·
          refine lv_iload_n hx hb dX10_look_66 rfl (lv_at hl 2 rfl) ?_
          refine lv_iconst (v := 2) hx hb dX10_look_67 (by decide) ?_
          refine lv_icmp_ne (tgt := 80) hx hb dX10_look_68 (by decide) (fun c68 => ?_) (fun c68 => ?_)
          ·
            refine lv_iload_n hx hb dX10_look_80 rfl (lv_at hl 2 rfl) ?_
            refine lv_iconst (v := 3) hx hb dX10_look_81 (by decide) ?_
            refine lv_icmp_ne (tgt := 94) hx hb dX10_look_82 (by decide) (fun c82 => ?_) (fun c82 => ?_)
            ·
              refine lv_aload_n hx hb dX10_look_94 rfl (lv_at hl 0 rfl) ?_
              refine m_ga S hG 13 rfl (hts (.fieldLink RX10 40 "SwarmLineModel" "hiveLast" "[I") (by decide +kernel)) dX10_look_95 ?_
              refine lv_iload_n hx hb dX10_look_98 rfl (lv_at hl 1 rfl) ?_
              refine m_ld (v := r 13 (Int32.toNatClampNeg h)) S hG 13 rfl (show vp_in h 20 from fIs_in c6 h1) dX10_look_99 (rfl) ?_
              exact m_iret S hr hlocks hG hL dX10_look_100 (by simp only [vLo, kTo, eq_false c6, eq_false c19, eq_false c40, eq_false c54, eq_false c68, eq_false c82, il1, il2, il3, ↓reduceIte]) (by simp only [vLo, kTo, eq_false c6, eq_false c19, eq_false c40, eq_false c54, eq_false c68, eq_false c82, il1, il2, il3, ↓reduceIte]) (by rfl)
            ·
              refine lv_aload_n hx hb dX10_look_85 rfl (lv_at hl 0 rfl) ?_
              refine m_ga S hG 12 rfl (hts (.fieldLink RX10 37 "SwarmLineModel" "hiveWarm" "[I") (by decide +kernel)) dX10_look_86 ?_
              refine lv_iload_n hx hb dX10_look_89 rfl (lv_at hl 1 rfl) ?_
              refine m_ld (v := r 12 (Int32.toNatClampNeg h)) S hG 12 rfl (show vp_in h 20 from fIs_in c6 h1) dX10_look_90 (rfl) ?_
              refine lv_goto (tgt := 100) hx hb dX10_look_91 (by decide) ?_
              exact m_iret S hr hlocks hG hL dX10_look_100 (by simp only [vLo, kTo, eq_false c6, eq_false c19, eq_false c40, eq_false c54, eq_false c68, eq_true c82, il1, il2, il3, ↓reduceIte]) (by simp only [vLo, kTo, eq_false c6, eq_false c19, eq_false c40, eq_false c54, eq_false c68, eq_true c82, il1, il2, il3, ↓reduceIte]) (by rfl)
          ·
            refine lv_aload_n hx hb dX10_look_71 rfl (lv_at hl 0 rfl) ?_
            refine m_ga S hG 11 rfl (hts (.fieldLink RX10 34 "SwarmLineModel" "hiveMark" "[I") (by decide +kernel)) dX10_look_72 ?_
            refine lv_iload_n hx hb dX10_look_75 rfl (lv_at hl 1 rfl) ?_
            refine m_ld (v := r 11 (Int32.toNatClampNeg h)) S hG 11 rfl (show vp_in h 20 from fIs_in c6 h1) dX10_look_76 (rfl) ?_
            refine lv_goto (tgt := 100) hx hb dX10_look_77 (by decide) ?_
            exact m_iret S hr hlocks hG hL dX10_look_100 (by simp only [vLo, kTo, eq_false c6, eq_false c19, eq_false c40, eq_false c54, eq_true c68, il1, il2, il3, ↓reduceIte]) (by simp only [vLo, kTo, eq_false c6, eq_false c19, eq_false c40, eq_false c54, eq_true c68, il1, il2, il3, ↓reduceIte]) (by rfl)
        ·
          refine lv_aload_n hx hb dX10_look_57 rfl (lv_at hl 0 rfl) ?_
          refine m_ga S hG 10 rfl (hts (.fieldLink RX10 31 "SwarmLineModel" "hiveRoom" "[I") (by decide +kernel)) dX10_look_58 ?_
          refine lv_iload_n hx hb dX10_look_61 rfl (lv_at hl 1 rfl) ?_
          refine m_ld (v := r 10 (Int32.toNatClampNeg h)) S hG 10 rfl (show vp_in h 20 from fIs_in c6 h1) dX10_look_62 (rfl) ?_
          refine lv_goto (tgt := 100) hx hb dX10_look_63 (by decide) ?_
          exact m_iret S hr hlocks hG hL dX10_look_100 (by simp only [vLo, kTo, eq_false c6, eq_false c19, eq_false c40, eq_true c54, il1, il2, il3, ↓reduceIte]) (by simp only [vLo, kTo, eq_false c6, eq_false c19, eq_false c40, eq_true c54, il1, il2, il3, ↓reduceIte]) (by rfl)
      ·
        refine lv_aload_n hx hb dX10_look_43 rfl (lv_at hl 0 rfl) ?_
        refine m_ga S hG 9 rfl (hts (.fieldLink RX10 28 "SwarmLineModel" "hiveBees" "[I") (by decide +kernel)) dX10_look_44 ?_
        refine lv_iload_n hx hb dX10_look_47 rfl (lv_at hl 1 rfl) ?_
        refine m_ld (v := r 9 (Int32.toNatClampNeg h)) S hG 9 rfl (show vp_in h 20 from fIs_in c6 h1) dX10_look_48 (rfl) ?_
        refine lv_goto (tgt := 100) hx hb dX10_look_49 (by decide) ?_
        exact m_iret S hr hlocks hG hL dX10_look_100 (by simp only [vLo, kTo, eq_false c6, eq_false c19, eq_true c40, il1, il2, il3, ↓reduceIte]) (by simp only [vLo, kTo, eq_false c6, eq_false c19, eq_true c40, il1, il2, il3, ↓reduceIte]) (by rfl)
    ·
      refine lv_iconst (v := 2) hx hb dX10_look_22 (by decide) ?_
      refine lv_goto (tgt := 27) hx hb dX10_look_23 (by decide) ?_
      refine m_pi S hG hL 0 rfl (hts (.fieldLink RX10 180 "SwarmLineModel" "thrown" "I") (by decide +kernel)) dX10_look_27 (fun H locs hG hL => ?_)
      refine lv_aload_n hx hb dX10_look_30 rfl (lv_at hl 0 rfl) ?_
      refine m_gi (v := 2) S hG 0 rfl (hts (.fieldLink RX10 180 "SwarmLineModel" "thrown" "I") (by decide +kernel)) dX10_look_31 rfl ?_
      refine lv_if_le (tgt := 39) hx hb dX10_look_34 (by decide) (fun c => absurd c (by decide)) (fun _ => ?_)
      refine lv_iconst (v := 0) hx hb dX10_look_37 (by decide) ?_
      exact m_iret S hr hlocks hG hL dX10_look_38 (by simp only [vLo, kTo, eq_false c6, eq_true c19, il1, il2, il3, ↓reduceIte]) (by simp only [vLo, kTo, eq_false c6, eq_true c19, il1, il2, il3, ↓reduceIte]) (by rfl)
  ·
    refine lv_iconst (v := 1) hx hb dX10_look_9 (by decide) ?_
    refine lv_goto (tgt := 27) hx hb dX10_look_10 (by decide) ?_
    refine m_pi S hG hL 0 rfl (hts (.fieldLink RX10 180 "SwarmLineModel" "thrown" "I") (by decide +kernel)) dX10_look_27 (fun H locs hG hL => ?_)
    refine lv_aload_n hx hb dX10_look_30 rfl (lv_at hl 0 rfl) ?_
    refine m_gi (v := 1) S hG 0 rfl (hts (.fieldLink RX10 180 "SwarmLineModel" "thrown" "I") (by decide +kernel)) dX10_look_31 rfl ?_
    refine lv_if_le (tgt := 39) hx hb dX10_look_34 (by decide) (fun c => absurd c (by decide)) (fun _ => ?_)
    refine lv_iconst (v := 0) hx hb dX10_look_37 (by decide) ?_
    exact m_iret S hr hlocks hG hL dX10_look_38 (by simp only [vLo, kTo, eq_true c6, il1, il2, il3, ↓reduceIte]) (by simp only [vLo, kTo, eq_true c6, il1, il2, il3, ↓reduceIte]) (by rfl)
set_option maxHeartbeats 4000000 in
set_option maxRecDepth 100000 in
theorem c_X10_crew {l : Launch} {D : va_G} {cI cZ cB cO cR cJ : ClassId} {Hb : Heap} {lv : Nat → Prop} {ad : Nat → Nat} {ce0 : Nat → va_E} (hlv : lM lv) (h : Int32) (w : Int32) (s : Nat → Int32) (r : Nat → Nat → Int32) (h1 : (s 26).toInt ≤ 12) : mMet l D cI cZ cB cO cR cJ Hb lv ad ce0 yX10_crew wsX10_crew 1 22 [.ref (ad 0), .int h, .int w] s r (some (.int (vCr h w s r))) (upd s 0 (kTo (s 26) h 4 w)) r := by
  refine Met.ofW (cc := cX10_crew) (maxL := 3) (ret := (some .int)) (by decide) rfl ?_
  intro p0 e0 s0 m0 args below meth c0 s₁ B hml hv
  obtain ⟨rfl, hG, hK⟩ := hv
  have hx := B.exec
  have hb := B.bytes
  have hr := B.returns
  have hts := atoms_spec (ws := wsX10_crew) B.pre
  have hown : s0.vm.findClass RX10 = some m0.cls := findClass_of_methodNamed B.named
  have hlocks := B.notSynchronized
  have S : mX p0 m0 c0 cX10_crew 3 s0 _ wsX10_crew D cI cZ cB cO cR cJ lv := ⟨⟨hx, hb, hml, hown, hts⟩, hK, fun w h => List.mem_cons_of_mem _ (List.mem_append_right _ h), hlv⟩
  have hL : gL Hb [] := gL.nil
  have hl := lv_entry ([.ref (ad 0), .int h, .int w]) (n := 3) (Nat.le_of_ble_eq_true rfl)
  rw [lg_entry_eq]
  generalize (lg_sl ([.ref (ad 0), .int h, .int w]) ++ List.replicate (3 - (lg_sl ([.ref (ad 0), .int h, .int w])).length) Slot.unset).toArray = ls at hl ⊢
  have hl : lv_has ls 3 [(0, .ref (ad 0)), (1, .int h), (2, .int w)] := hl
  refine lv_aload_n hx hb dX10_crew_0 rfl (lv_at hl 0 rfl) ?_
  refine lv_aload_n hx hb dX10_crew_1 rfl (lv_at hl 0 rfl) ?_
  refine lv_iload_n hx hb dX10_crew_2 rfl (lv_at hl 1 rfl) ?_
  refine m_callV (n := 1) (As := [.int h]) (rest := [.ref (ad 0)]) (st1 := .int (fIs (s 26) h) :: [.ref (ad 0)]) S hG hL (c_X10_isKeeper hlv h s r ) gX10_crew_X10_isKeeper rfl (by decide +kernel) ⟨Nat.le_of_ble_eq_true rfl, Nat.le_of_ble_eq_true rfl⟩ rfl hl.1 rfl (Nat.le_of_ble_eq_true rfl) dX10_crew_3 ⟨Nat.zero_le _, Nat.zero_le _⟩ (rfl) (fun H locs hG hL => ?_)
  refine lv_if_ne (tgt := 13) hx hb dX10_crew_6 (by decide) (fun c6 => ?_) (fun c6 => ?_)
  ·
    refine lv_iload_n hx hb dX10_crew_13 rfl (lv_at hl 2 rfl) ?_
    refine lv_iconst (v := 0) hx hb dX10_crew_14 (by decide) ?_
    refine lv_iconst (v := 4) hx hb dX10_crew_15 (by decide) ?_
    refine m_callP (n := 3) (As := [.int w, .int 0, .int 4]) (rest := [.ref (ad 0)]) (st1 := .int (fIn w 0 4) :: [.ref (ad 0)]) S.1 (c_X10_isIn w 0 4) gX10_crew_X10_isIn rfl (by decide +kernel) ⟨Nat.le_of_ble_eq_true rfl, Nat.le_of_ble_eq_true rfl⟩ rfl hl.1 rfl (Nat.le_of_ble_eq_true rfl) dX10_crew_16 ⟨Nat.zero_le _, Nat.zero_le _⟩ rfl ?_
    refine lv_if_ne (tgt := 26) hx hb dX10_crew_19 (by decide) (fun c19 => ?_) (fun c19 => ?_)
    ·
      refine lv_iconst (v := 0) hx hb dX10_crew_26 (by decide) ?_
      refine m_pi S hG hL 0 rfl (hts (.fieldLink RX10 180 "SwarmLineModel" "thrown" "I") (by decide +kernel)) dX10_crew_27 (fun H locs hG hL => ?_)
      refine lv_aload_n hx hb dX10_crew_30 rfl (lv_at hl 0 rfl) ?_
      refine m_gi (v := 0) S hG 0 rfl (hts (.fieldLink RX10 180 "SwarmLineModel" "thrown" "I") (by decide +kernel)) dX10_crew_31 rfl ?_
      refine lv_if_le (tgt := 39) hx hb dX10_crew_34 (by decide) (fun _ => ?_) (fun c => absurd c (by decide))
      refine lv_iload_n hx hb dX10_crew_39 rfl (lv_at hl 2 rfl) ?_
      refine lv_if_ne (tgt := 52) hx hb dX10_crew_40 (by decide) (fun c40 => ?_) (fun c40 => ?_)
      ·
        refine lv_iload_n hx hb dX10_crew_52 rfl (lv_at hl 2 rfl) ?_
        refine lv_iconst (v := 1) hx hb dX10_crew_53 (by decide) ?_
        refine lv_icmp_ne (tgt := 66) hx hb dX10_crew_54 (by decide) (fun c54 => ?_) (fun c54 => ?_)
        ·
          refine lv_iload_n hx hb dX10_crew_66 rfl (lv_at hl 2 rfl) ?_
          refine lv_iconst (v := 2) hx hb dX10_crew_67 (by decide) ?_
          refine lv_icmp_ne (tgt := 80) hx hb dX10_crew_68 (by decide) (fun c68 => ?_) (fun c68 => ?_)
          ·
            refine lv_iload_n hx hb dX10_crew_80 rfl (lv_at hl 2 rfl) ?_
            refine lv_iconst (v := 3) hx hb dX10_crew_81 (by decide) ?_
            refine lv_icmp_ne (tgt := 94) hx hb dX10_crew_82 (by decide) (fun c82 => ?_) (fun c82 => ?_)
            ·
              refine lv_aload_n hx hb dX10_crew_94 rfl (lv_at hl 0 rfl) ?_
              refine m_ga S hG 38 rfl (hts (.fieldLink RX10 109 "SwarmLineModel" "keeperHad" "[I") (by decide +kernel)) dX10_crew_95 ?_
              refine lv_iload_n hx hb dX10_crew_98 rfl (lv_at hl 1 rfl) ?_
              refine m_ld (v := r 38 (Int32.toNatClampNeg h)) S hG 38 rfl (show vp_in h 12 from fIs_in c6 h1) dX10_crew_99 (rfl) ?_
              exact m_iret S hr hlocks hG hL dX10_crew_100 (by simp only [vCr, kTo, eq_false c6, eq_false c19, eq_false c40, eq_false c54, eq_false c68, eq_false c82, il1, il2, il3, ↓reduceIte]) (by simp only [vCr, kTo, eq_false c6, eq_false c19, eq_false c40, eq_false c54, eq_false c68, eq_false c82, il1, il2, il3, ↓reduceIte]) (by rfl)
            ·
              refine lv_aload_n hx hb dX10_crew_85 rfl (lv_at hl 0 rfl) ?_
              refine m_ga S hG 37 rfl (hts (.fieldLink RX10 106 "SwarmLineModel" "keeperCase" "[I") (by decide +kernel)) dX10_crew_86 ?_
              refine lv_iload_n hx hb dX10_crew_89 rfl (lv_at hl 1 rfl) ?_
              refine m_ld (v := r 37 (Int32.toNatClampNeg h)) S hG 37 rfl (show vp_in h 12 from fIs_in c6 h1) dX10_crew_90 (rfl) ?_
              refine lv_goto (tgt := 100) hx hb dX10_crew_91 (by decide) ?_
              exact m_iret S hr hlocks hG hL dX10_crew_100 (by simp only [vCr, kTo, eq_false c6, eq_false c19, eq_false c40, eq_false c54, eq_false c68, eq_true c82, il1, il2, il3, ↓reduceIte]) (by simp only [vCr, kTo, eq_false c6, eq_false c19, eq_false c40, eq_false c54, eq_false c68, eq_true c82, il1, il2, il3, ↓reduceIte]) (by rfl)
          ·
            refine lv_aload_n hx hb dX10_crew_71 rfl (lv_at hl 0 rfl) ?_
            refine m_ga S hG 35 rfl (hts (.fieldLink RX10 100 "SwarmLineModel" "keeperGo" "[I") (by decide +kernel)) dX10_crew_72 ?_
            refine lv_iload_n hx hb dX10_crew_75 rfl (lv_at hl 1 rfl) ?_
            refine m_ld (v := r 35 (Int32.toNatClampNeg h)) S hG 35 rfl (show vp_in h 12 from fIs_in c6 h1) dX10_crew_76 (rfl) ?_
            refine lv_goto (tgt := 100) hx hb dX10_crew_77 (by decide) ?_
            exact m_iret S hr hlocks hG hL dX10_crew_100 (by simp only [vCr, kTo, eq_false c6, eq_false c19, eq_false c40, eq_false c54, eq_true c68, il1, il2, il3, ↓reduceIte]) (by simp only [vCr, kTo, eq_false c6, eq_false c19, eq_false c40, eq_false c54, eq_true c68, il1, il2, il3, ↓reduceIte]) (by rfl)
        ·
          refine lv_aload_n hx hb dX10_crew_57 rfl (lv_at hl 0 rfl) ?_
          refine m_ga S hG 29 rfl (hts (.fieldLink RX10 82 "SwarmLineModel" "keeperBoxes" "[I") (by decide +kernel)) dX10_crew_58 ?_
          refine lv_iload_n hx hb dX10_crew_61 rfl (lv_at hl 1 rfl) ?_
          refine m_ld (v := r 29 (Int32.toNatClampNeg h)) S hG 29 rfl (show vp_in h 12 from fIs_in c6 h1) dX10_crew_62 (rfl) ?_
          refine lv_goto (tgt := 100) hx hb dX10_crew_63 (by decide) ?_
          exact m_iret S hr hlocks hG hL dX10_crew_100 (by simp only [vCr, kTo, eq_false c6, eq_false c19, eq_false c40, eq_true c54, il1, il2, il3, ↓reduceIte]) (by simp only [vCr, kTo, eq_false c6, eq_false c19, eq_false c40, eq_true c54, il1, il2, il3, ↓reduceIte]) (by rfl)
      ·
        refine lv_aload_n hx hb dX10_crew_43 rfl (lv_at hl 0 rfl) ?_
        refine m_ga S hG 34 rfl (hts (.fieldLink RX10 97 "SwarmLineModel" "keeperState" "[I") (by decide +kernel)) dX10_crew_44 ?_
        refine lv_iload_n hx hb dX10_crew_47 rfl (lv_at hl 1 rfl) ?_
        refine m_ld (v := r 34 (Int32.toNatClampNeg h)) S hG 34 rfl (show vp_in h 12 from fIs_in c6 h1) dX10_crew_48 (rfl) ?_
        refine lv_goto (tgt := 100) hx hb dX10_crew_49 (by decide) ?_
        exact m_iret S hr hlocks hG hL dX10_crew_100 (by simp only [vCr, kTo, eq_false c6, eq_false c19, eq_true c40, il1, il2, il3, ↓reduceIte]) (by simp only [vCr, kTo, eq_false c6, eq_false c19, eq_true c40, il1, il2, il3, ↓reduceIte]) (by rfl)
    ·
      refine lv_iconst (v := 2) hx hb dX10_crew_22 (by decide) ?_
      refine lv_goto (tgt := 27) hx hb dX10_crew_23 (by decide) ?_
      refine m_pi S hG hL 0 rfl (hts (.fieldLink RX10 180 "SwarmLineModel" "thrown" "I") (by decide +kernel)) dX10_crew_27 (fun H locs hG hL => ?_)
      refine lv_aload_n hx hb dX10_crew_30 rfl (lv_at hl 0 rfl) ?_
      refine m_gi (v := 2) S hG 0 rfl (hts (.fieldLink RX10 180 "SwarmLineModel" "thrown" "I") (by decide +kernel)) dX10_crew_31 rfl ?_
      refine lv_if_le (tgt := 39) hx hb dX10_crew_34 (by decide) (fun c => absurd c (by decide)) (fun _ => ?_)
      refine lv_iconst (v := 0) hx hb dX10_crew_37 (by decide) ?_
      exact m_iret S hr hlocks hG hL dX10_crew_38 (by simp only [vCr, kTo, eq_false c6, eq_true c19, il1, il2, il3, ↓reduceIte]) (by simp only [vCr, kTo, eq_false c6, eq_true c19, il1, il2, il3, ↓reduceIte]) (by rfl)
  ·
    refine lv_iconst (v := 1) hx hb dX10_crew_9 (by decide) ?_
    refine lv_goto (tgt := 27) hx hb dX10_crew_10 (by decide) ?_
    refine m_pi S hG hL 0 rfl (hts (.fieldLink RX10 180 "SwarmLineModel" "thrown" "I") (by decide +kernel)) dX10_crew_27 (fun H locs hG hL => ?_)
    refine lv_aload_n hx hb dX10_crew_30 rfl (lv_at hl 0 rfl) ?_
    refine m_gi (v := 1) S hG 0 rfl (hts (.fieldLink RX10 180 "SwarmLineModel" "thrown" "I") (by decide +kernel)) dX10_crew_31 rfl ?_
    refine lv_if_le (tgt := 39) hx hb dX10_crew_34 (by decide) (fun c => absurd c (by decide)) (fun _ => ?_)
    refine lv_iconst (v := 0) hx hb dX10_crew_37 (by decide) ?_
    exact m_iret S hr hlocks hG hL dX10_crew_38 (by simp only [vCr, kTo, eq_true c6, il1, il2, il3, ↓reduceIte]) (by simp only [vCr, kTo, eq_true c6, il1, il2, il3, ↓reduceIte]) (by rfl)
set_option maxHeartbeats 4000000 in
set_option maxRecDepth 100000 in
theorem c_X10_swarm {l : Launch} {D : va_G} {cI cZ cB cO cR cJ : ClassId} {Hb : Heap} {lv : Nat → Prop} {ad : Nat → Nat} {ce0 : Nat → va_E} (hlv : lM lv) (h : Int32) (w : Int32) (s : Nat → Int32) (r : Nat → Nat → Int32) (h1 : (s 14).toInt ≤ 60) : mMet l D cI cZ cB cO cR cJ Hb lv ad ce0 yX10_swarm wsX10_swarm 1 22 [.ref (ad 0), .int h, .int w] s r (some (.int (vSw h w s r))) (upd s 0 (kTo (s 14) h 9 w)) r := by
  refine Met.ofW (cc := cX10_swarm) (maxL := 3) (ret := (some .int)) (by decide) rfl ?_
  intro p0 e0 s0 m0 args below meth c0 s₁ B hml hv
  obtain ⟨rfl, hG, hK⟩ := hv
  have hx := B.exec
  have hb := B.bytes
  have hr := B.returns
  have hts := atoms_spec (ws := wsX10_swarm) B.pre
  have hown : s0.vm.findClass RX10 = some m0.cls := findClass_of_methodNamed B.named
  have hlocks := B.notSynchronized
  have S : mX p0 m0 c0 cX10_swarm 3 s0 _ wsX10_swarm D cI cZ cB cO cR cJ lv := ⟨⟨hx, hb, hml, hown, hts⟩, hK, fun w h => List.mem_cons_of_mem _ (List.mem_append_right _ h), hlv⟩
  have hL : gL Hb [] := gL.nil
  have hl := lv_entry ([.ref (ad 0), .int h, .int w]) (n := 3) (Nat.le_of_ble_eq_true rfl)
  rw [lg_entry_eq]
  generalize (lg_sl ([.ref (ad 0), .int h, .int w]) ++ List.replicate (3 - (lg_sl ([.ref (ad 0), .int h, .int w])).length) Slot.unset).toArray = ls at hl ⊢
  have hl : lv_has ls 3 [(0, .ref (ad 0)), (1, .int h), (2, .int w)] := hl
  refine lv_aload_n hx hb dX10_swarm_0 rfl (lv_at hl 0 rfl) ?_
  refine lv_aload_n hx hb dX10_swarm_1 rfl (lv_at hl 0 rfl) ?_
  refine lv_iload_n hx hb dX10_swarm_2 rfl (lv_at hl 1 rfl) ?_
  refine m_callV (n := 1) (As := [.int h]) (rest := [.ref (ad 0)]) (st1 := .int (fIs (s 14) h) :: [.ref (ad 0)]) S hG hL (c_X10_isSwarm hlv h s r ) gX10_swarm_X10_isSwarm rfl (by decide +kernel) ⟨Nat.le_of_ble_eq_true rfl, Nat.le_of_ble_eq_true rfl⟩ rfl hl.1 rfl (Nat.le_of_ble_eq_true rfl) dX10_swarm_3 ⟨Nat.zero_le _, Nat.zero_le _⟩ (rfl) (fun H locs hG hL => ?_)
  refine lv_if_ne (tgt := 13) hx hb dX10_swarm_6 (by decide) (fun c6 => ?_) (fun c6 => ?_)
  ·
    refine lv_iload_n hx hb dX10_swarm_13 rfl (lv_at hl 2 rfl) ?_
    refine lv_iconst (v := 0) hx hb dX10_swarm_14 (by decide) ?_
    refine lv_bipush (v := 9) hx hb dX10_swarm_15 (by decide) ?_
    refine m_callP (n := 3) (As := [.int w, .int 0, .int 9]) (rest := [.ref (ad 0)]) (st1 := .int (fIn w 0 9) :: [.ref (ad 0)]) S.1 (c_X10_isIn w 0 9) gX10_swarm_X10_isIn rfl (by decide +kernel) ⟨Nat.le_of_ble_eq_true rfl, Nat.le_of_ble_eq_true rfl⟩ rfl hl.1 rfl (Nat.le_of_ble_eq_true rfl) dX10_swarm_17 ⟨Nat.zero_le _, Nat.zero_le _⟩ rfl ?_
    refine lv_if_ne (tgt := 27) hx hb dX10_swarm_20 (by decide) (fun c20 => ?_) (fun c20 => ?_)
    ·
      refine lv_iconst (v := 0) hx hb dX10_swarm_27 (by decide) ?_
      refine m_pi S hG hL 0 rfl (hts (.fieldLink RX10 180 "SwarmLineModel" "thrown" "I") (by decide +kernel)) dX10_swarm_28 (fun H locs hG hL => ?_)
      refine lv_aload_n hx hb dX10_swarm_31 rfl (lv_at hl 0 rfl) ?_
      refine m_gi (v := 0) S hG 0 rfl (hts (.fieldLink RX10 180 "SwarmLineModel" "thrown" "I") (by decide +kernel)) dX10_swarm_32 rfl ?_
      refine lv_if_le (tgt := 40) hx hb dX10_swarm_35 (by decide) (fun _ => ?_) (fun c => absurd c (by decide))
      refine lv_iload_n hx hb dX10_swarm_40 rfl (lv_at hl 2 rfl) ?_
      by_cases csw : w.toInt < 0 ∨ 8 < w.toInt
      ·
        refine lv_tableOut (tgt := 155) hx hb dX10_swarm_41 csw (by decide) ?_
        refine lv_aload_n hx hb dX10_swarm_155 rfl (lv_at hl 0 rfl) ?_
        refine m_ga S hG 24 rfl (hts (.fieldLink RX10 70 "SwarmLineModel" "swarmHour" "[I") (by decide +kernel)) dX10_swarm_156 ?_
        refine lv_iload_n hx hb dX10_swarm_159 rfl (lv_at hl 1 rfl) ?_
        refine m_ld (v := r 24 (Int32.toNatClampNeg h)) S hG 24 rfl (show vp_in h 60 from fIs_in c6 h1) dX10_swarm_160 (rfl) ?_
        exact m_iret S hr hlocks hG hL dX10_swarm_161 (by simp only [vSw, kTo, eq_false c6, eq_false c20, il1, il2, ↓reduceIte]; exact (tab9_out csw ..)) (by simp only [kTo, eq_false c6, eq_false c20, il1, il2, il3, ↓reduceIte]) (by rfl)
      ·
        have csx : w = 0 ∨ w = 1 ∨ w = 2 ∨ w = 3 ∨ w = 4 ∨ w = 5 ∨ w = 6 ∨ w = 7 ∨ w = 8 := by simp only [t_eq]; simp; omega
        rcases csx with csx | csx | csx | csx | csx | csx | csx | csx | csx
        ·
          refine lv_tableIn (tgt := 92) (off := 51) hx hb dX10_swarm_41 (by rw [csx]; decide) (by rw [csx]; decide) (by rw [csx]; rfl) (by decide) ?_
          refine lv_aload_n hx hb dX10_swarm_92 rfl (lv_at hl 0 rfl) ?_
          refine m_ga S hG 15 rfl (hts (.fieldLink RX10 43 "SwarmLineModel" "swarmState" "[I") (by decide +kernel)) dX10_swarm_93 ?_
          refine lv_iload_n hx hb dX10_swarm_96 rfl (lv_at hl 1 rfl) ?_
          refine m_ld (v := r 15 (Int32.toNatClampNeg h)) S hG 15 rfl (show vp_in h 60 from fIs_in c6 h1) dX10_swarm_97 (rfl) ?_
          exact m_iret S hr hlocks hG hL dX10_swarm_98 (by simp only [vSw, kTo, eq_false c6, eq_false c20, il1, il2, ↓reduceIte]; simp [tab9, csx]) (by simp only [kTo, eq_false c6, eq_false c20, il1, il2, il3, ↓reduceIte]) (by rfl)
        ·
          refine lv_tableIn (tgt := 99) (off := 58) hx hb dX10_swarm_41 (by rw [csx]; decide) (by rw [csx]; decide) (by rw [csx]; rfl) (by decide) ?_
          refine lv_aload_n hx hb dX10_swarm_99 rfl (lv_at hl 0 rfl) ?_
          refine m_ga S hG 16 rfl (hts (.fieldLink RX10 46 "SwarmLineModel" "swarmHive" "[I") (by decide +kernel)) dX10_swarm_100 ?_
          refine lv_iload_n hx hb dX10_swarm_103 rfl (lv_at hl 1 rfl) ?_
          refine m_ld (v := r 16 (Int32.toNatClampNeg h)) S hG 16 rfl (show vp_in h 60 from fIs_in c6 h1) dX10_swarm_104 (rfl) ?_
          exact m_iret S hr hlocks hG hL dX10_swarm_105 (by simp only [vSw, kTo, eq_false c6, eq_false c20, il1, il2, ↓reduceIte]; simp [tab9, csx]) (by simp only [kTo, eq_false c6, eq_false c20, il1, il2, il3, ↓reduceIte]) (by rfl)
        ·
          refine lv_tableIn (tgt := 106) (off := 65) hx hb dX10_swarm_41 (by rw [csx]; decide) (by rw [csx]; decide) (by rw [csx]; rfl) (by decide) ?_
          refine lv_aload_n hx hb dX10_swarm_106 rfl (lv_at hl 0 rfl) ?_
          refine m_ga S hG 17 rfl (hts (.fieldLink RX10 49 "SwarmLineModel" "swarmBees" "[I") (by decide +kernel)) dX10_swarm_107 ?_
          refine lv_iload_n hx hb dX10_swarm_110 rfl (lv_at hl 1 rfl) ?_
          refine m_ld (v := r 17 (Int32.toNatClampNeg h)) S hG 17 rfl (show vp_in h 60 from fIs_in c6 h1) dX10_swarm_111 (rfl) ?_
          exact m_iret S hr hlocks hG hL dX10_swarm_112 (by simp only [vSw, kTo, eq_false c6, eq_false c20, il1, il2, ↓reduceIte]; simp [tab9, csx]) (by simp only [kTo, eq_false c6, eq_false c20, il1, il2, il3, ↓reduceIte]) (by rfl)
        ·
          refine lv_tableIn (tgt := 113) (off := 72) hx hb dX10_swarm_41 (by rw [csx]; decide) (by rw [csx]; decide) (by rw [csx]; rfl) (by decide) ?_
          refine lv_aload_n hx hb dX10_swarm_113 rfl (lv_at hl 0 rfl) ?_
          refine m_ga S hG 18 rfl (hts (.fieldLink RX10 52 "SwarmLineModel" "swarmX" "[I") (by decide +kernel)) dX10_swarm_114 ?_
          refine lv_iload_n hx hb dX10_swarm_117 rfl (lv_at hl 1 rfl) ?_
          refine m_ld (v := r 18 (Int32.toNatClampNeg h)) S hG 18 rfl (show vp_in h 60 from fIs_in c6 h1) dX10_swarm_118 (rfl) ?_
          exact m_iret S hr hlocks hG hL dX10_swarm_119 (by simp only [vSw, kTo, eq_false c6, eq_false c20, il1, il2, ↓reduceIte]; simp [tab9, csx]) (by simp only [kTo, eq_false c6, eq_false c20, il1, il2, il3, ↓reduceIte]) (by rfl)
        ·
          refine lv_tableIn (tgt := 120) (off := 79) hx hb dX10_swarm_41 (by rw [csx]; decide) (by rw [csx]; decide) (by rw [csx]; rfl) (by decide) ?_
          refine lv_aload_n hx hb dX10_swarm_120 rfl (lv_at hl 0 rfl) ?_
          refine m_ga S hG 19 rfl (hts (.fieldLink RX10 55 "SwarmLineModel" "swarmY" "[I") (by decide +kernel)) dX10_swarm_121 ?_
          refine lv_iload_n hx hb dX10_swarm_124 rfl (lv_at hl 1 rfl) ?_
          refine m_ld (v := r 19 (Int32.toNatClampNeg h)) S hG 19 rfl (show vp_in h 60 from fIs_in c6 h1) dX10_swarm_125 (rfl) ?_
          exact m_iret S hr hlocks hG hL dX10_swarm_126 (by simp only [vSw, kTo, eq_false c6, eq_false c20, il1, il2, ↓reduceIte]; simp [tab9, csx]) (by simp only [kTo, eq_false c6, eq_false c20, il1, il2, il3, ↓reduceIte]) (by rfl)
        ·
          refine lv_tableIn (tgt := 127) (off := 86) hx hb dX10_swarm_41 (by rw [csx]; decide) (by rw [csx]; decide) (by rw [csx]; rfl) (by decide) ?_
          refine lv_aload_n hx hb dX10_swarm_127 rfl (lv_at hl 0 rfl) ?_
          refine m_ga S hG 20 rfl (hts (.fieldLink RX10 58 "SwarmLineModel" "swarmHeight" "[I") (by decide +kernel)) dX10_swarm_128 ?_
          refine lv_iload_n hx hb dX10_swarm_131 rfl (lv_at hl 1 rfl) ?_
          refine m_ld (v := r 20 (Int32.toNatClampNeg h)) S hG 20 rfl (show vp_in h 60 from fIs_in c6 h1) dX10_swarm_132 (rfl) ?_
          exact m_iret S hr hlocks hG hL dX10_swarm_133 (by simp only [vSw, kTo, eq_false c6, eq_false c20, il1, il2, ↓reduceIte]; simp [tab9, csx]) (by simp only [kTo, eq_false c6, eq_false c20, il1, il2, il3, ↓reduceIte]) (by rfl)
        ·
          refine lv_tableIn (tgt := 134) (off := 93) hx hb dX10_swarm_41 (by rw [csx]; decide) (by rw [csx]; decide) (by rw [csx]; rfl) (by decide) ?_
          refine lv_aload_n hx hb dX10_swarm_134 rfl (lv_at hl 0 rfl) ?_
          refine m_ga S hG 21 rfl (hts (.fieldLink RX10 61 "SwarmLineModel" "swarmLeft" "[I") (by decide +kernel)) dX10_swarm_135 ?_
          refine lv_iload_n hx hb dX10_swarm_138 rfl (lv_at hl 1 rfl) ?_
          refine m_ld (v := r 21 (Int32.toNatClampNeg h)) S hG 21 rfl (show vp_in h 60 from fIs_in c6 h1) dX10_swarm_139 (rfl) ?_
          exact m_iret S hr hlocks hG hL dX10_swarm_140 (by simp only [vSw, kTo, eq_false c6, eq_false c20, il1, il2, ↓reduceIte]; simp [tab9, csx]) (by simp only [kTo, eq_false c6, eq_false c20, il1, il2, il3, ↓reduceIte]) (by rfl)
        ·
          refine lv_tableIn (tgt := 141) (off := 100) hx hb dX10_swarm_41 (by rw [csx]; decide) (by rw [csx]; decide) (by rw [csx]; rfl) (by decide) ?_
          refine lv_aload_n hx hb dX10_swarm_141 rfl (lv_at hl 0 rfl) ?_
          refine m_ga S hG 22 rfl (hts (.fieldLink RX10 64 "SwarmLineModel" "swarmPatience" "[I") (by decide +kernel)) dX10_swarm_142 ?_
          refine lv_iload_n hx hb dX10_swarm_145 rfl (lv_at hl 1 rfl) ?_
          refine m_ld (v := r 22 (Int32.toNatClampNeg h)) S hG 22 rfl (show vp_in h 60 from fIs_in c6 h1) dX10_swarm_146 (rfl) ?_
          exact m_iret S hr hlocks hG hL dX10_swarm_147 (by simp only [vSw, kTo, eq_false c6, eq_false c20, il1, il2, ↓reduceIte]; simp [tab9, csx]) (by simp only [kTo, eq_false c6, eq_false c20, il1, il2, il3, ↓reduceIte]) (by rfl)
        ·
          refine lv_tableIn (tgt := 148) (off := 107) hx hb dX10_swarm_41 (by rw [csx]; decide) (by rw [csx]; decide) (by rw [csx]; rfl) (by decide) ?_
          refine lv_aload_n hx hb dX10_swarm_148 rfl (lv_at hl 0 rfl) ?_
          refine m_ga S hG 23 rfl (hts (.fieldLink RX10 67 "SwarmLineModel" "swarmKeeper" "[I") (by decide +kernel)) dX10_swarm_149 ?_
          refine lv_iload_n hx hb dX10_swarm_152 rfl (lv_at hl 1 rfl) ?_
          refine m_ld (v := r 23 (Int32.toNatClampNeg h)) S hG 23 rfl (show vp_in h 60 from fIs_in c6 h1) dX10_swarm_153 (rfl) ?_
          exact m_iret S hr hlocks hG hL dX10_swarm_154 (by simp only [vSw, kTo, eq_false c6, eq_false c20, il1, il2, ↓reduceIte]; simp [tab9, csx]) (by simp only [kTo, eq_false c6, eq_false c20, il1, il2, il3, ↓reduceIte]) (by rfl)
    ·
      refine lv_iconst (v := 2) hx hb dX10_swarm_23 (by decide) ?_
      refine lv_goto (tgt := 28) hx hb dX10_swarm_24 (by decide) ?_
      refine m_pi S hG hL 0 rfl (hts (.fieldLink RX10 180 "SwarmLineModel" "thrown" "I") (by decide +kernel)) dX10_swarm_28 (fun H locs hG hL => ?_)
      refine lv_aload_n hx hb dX10_swarm_31 rfl (lv_at hl 0 rfl) ?_
      refine m_gi (v := 2) S hG 0 rfl (hts (.fieldLink RX10 180 "SwarmLineModel" "thrown" "I") (by decide +kernel)) dX10_swarm_32 rfl ?_
      refine lv_if_le (tgt := 40) hx hb dX10_swarm_35 (by decide) (fun c => absurd c (by decide)) (fun _ => ?_)
      refine lv_iconst (v := 0) hx hb dX10_swarm_38 (by decide) ?_
      exact m_iret S hr hlocks hG hL dX10_swarm_39 (by simp only [vSw, kTo, eq_false c6, eq_true c20, il1, il2, ↓reduceIte]) (by simp only [kTo, eq_false c6, eq_true c20, il1, il2, il3, ↓reduceIte]) (by rfl)
  ·
    refine lv_iconst (v := 1) hx hb dX10_swarm_9 (by decide) ?_
    refine lv_goto (tgt := 28) hx hb dX10_swarm_10 (by decide) ?_
    refine m_pi S hG hL 0 rfl (hts (.fieldLink RX10 180 "SwarmLineModel" "thrown" "I") (by decide +kernel)) dX10_swarm_28 (fun H locs hG hL => ?_)
    refine lv_aload_n hx hb dX10_swarm_31 rfl (lv_at hl 0 rfl) ?_
    refine m_gi (v := 1) S hG 0 rfl (hts (.fieldLink RX10 180 "SwarmLineModel" "thrown" "I") (by decide +kernel)) dX10_swarm_32 rfl ?_
    refine lv_if_le (tgt := 40) hx hb dX10_swarm_35 (by decide) (fun c => absurd c (by decide)) (fun _ => ?_)
    refine lv_iconst (v := 0) hx hb dX10_swarm_38 (by decide) ?_
    exact m_iret S hr hlocks hG hL dX10_swarm_39 (by simp only [vSw, kTo, eq_true c6, il1, il2, ↓reduceIte]) (by simp only [kTo, eq_true c6, il1, il2, il3, ↓reduceIte]) (by rfl)
set_option maxHeartbeats 4000000 in
set_option maxRecDepth 100000 in
theorem c_X10_matter {l : Launch} {D : va_G} {cI cZ cB cO cR cJ : ClassId} {Hb : Heap} {lv : Nat → Prop} {ad : Nat → Nat} {ce0 : Nat → va_E} (hlv : lM lv) (h : Int32) (w : Int32) (s : Nat → Int32) (r : Nat → Nat → Int32) (h1 : (s 39).toInt ≤ 60) : mMet l D cI cZ cB cO cR cJ Hb lv ad ce0 yX10_matter wsX10_matter 1 22 [.ref (ad 0), .int h, .int w] s r (some (.int (vMa h w s r))) (upd s 0 (kTo (s 39) h 9 w)) r := by
  refine Met.ofW (cc := cX10_matter) (maxL := 3) (ret := (some .int)) (by decide) rfl ?_
  intro p0 e0 s0 m0 args below meth c0 s₁ B hml hv
  obtain ⟨rfl, hG, hK⟩ := hv
  have hx := B.exec
  have hb := B.bytes
  have hr := B.returns
  have hts := atoms_spec (ws := wsX10_matter) B.pre
  have hown : s0.vm.findClass RX10 = some m0.cls := findClass_of_methodNamed B.named
  have hlocks := B.notSynchronized
  have S : mX p0 m0 c0 cX10_matter 3 s0 _ wsX10_matter D cI cZ cB cO cR cJ lv := ⟨⟨hx, hb, hml, hown, hts⟩, hK, fun w h => List.mem_cons_of_mem _ (List.mem_append_right _ h), hlv⟩
  have hL : gL Hb [] := gL.nil
  have hl := lv_entry ([.ref (ad 0), .int h, .int w]) (n := 3) (Nat.le_of_ble_eq_true rfl)
  rw [lg_entry_eq]
  generalize (lg_sl ([.ref (ad 0), .int h, .int w]) ++ List.replicate (3 - (lg_sl ([.ref (ad 0), .int h, .int w])).length) Slot.unset).toArray = ls at hl ⊢
  have hl : lv_has ls 3 [(0, .ref (ad 0)), (1, .int h), (2, .int w)] := hl
  refine lv_aload_n hx hb dX10_matter_0 rfl (lv_at hl 0 rfl) ?_
  refine lv_aload_n hx hb dX10_matter_1 rfl (lv_at hl 0 rfl) ?_
  refine lv_iload_n hx hb dX10_matter_2 rfl (lv_at hl 1 rfl) ?_
  refine m_callV (n := 1) (As := [.int h]) (rest := [.ref (ad 0)]) (st1 := .int (fIs (s 39) h) :: [.ref (ad 0)]) S hG hL (c_X10_isCase hlv h s r ) gX10_matter_X10_isCase rfl (by decide +kernel) ⟨Nat.le_of_ble_eq_true rfl, Nat.le_of_ble_eq_true rfl⟩ rfl hl.1 rfl (Nat.le_of_ble_eq_true rfl) dX10_matter_3 ⟨Nat.zero_le _, Nat.zero_le _⟩ (rfl) (fun H locs hG hL => ?_)
  refine lv_if_ne (tgt := 13) hx hb dX10_matter_6 (by decide) (fun c6 => ?_) (fun c6 => ?_)
  ·
    refine lv_iload_n hx hb dX10_matter_13 rfl (lv_at hl 2 rfl) ?_
    refine lv_iconst (v := 0) hx hb dX10_matter_14 (by decide) ?_
    refine lv_bipush (v := 9) hx hb dX10_matter_15 (by decide) ?_
    refine m_callP (n := 3) (As := [.int w, .int 0, .int 9]) (rest := [.ref (ad 0)]) (st1 := .int (fIn w 0 9) :: [.ref (ad 0)]) S.1 (c_X10_isIn w 0 9) gX10_matter_X10_isIn rfl (by decide +kernel) ⟨Nat.le_of_ble_eq_true rfl, Nat.le_of_ble_eq_true rfl⟩ rfl hl.1 rfl (Nat.le_of_ble_eq_true rfl) dX10_matter_17 ⟨Nat.zero_le _, Nat.zero_le _⟩ rfl ?_
    refine lv_if_ne (tgt := 27) hx hb dX10_matter_20 (by decide) (fun c20 => ?_) (fun c20 => ?_)
    ·
      refine lv_iconst (v := 0) hx hb dX10_matter_27 (by decide) ?_
      refine m_pi S hG hL 0 rfl (hts (.fieldLink RX10 180 "SwarmLineModel" "thrown" "I") (by decide +kernel)) dX10_matter_28 (fun H locs hG hL => ?_)
      refine lv_aload_n hx hb dX10_matter_31 rfl (lv_at hl 0 rfl) ?_
      refine m_gi (v := 0) S hG 0 rfl (hts (.fieldLink RX10 180 "SwarmLineModel" "thrown" "I") (by decide +kernel)) dX10_matter_32 rfl ?_
      refine lv_if_le (tgt := 40) hx hb dX10_matter_35 (by decide) (fun _ => ?_) (fun c => absurd c (by decide))
      refine lv_iload_n hx hb dX10_matter_40 rfl (lv_at hl 2 rfl) ?_
      by_cases csw : w.toInt < 0 ∨ 8 < w.toInt
      ·
        refine lv_tableOut (tgt := 155) hx hb dX10_matter_41 csw (by decide) ?_
        refine lv_aload_n hx hb dX10_matter_155 rfl (lv_at hl 0 rfl) ?_
        refine m_ga S hG 51 rfl (hts (.fieldLink RX10 143 "SwarmLineModel" "caseSwarm" "[I") (by decide +kernel)) dX10_matter_156 ?_
        refine lv_iload_n hx hb dX10_matter_159 rfl (lv_at hl 1 rfl) ?_
        refine m_ld (v := r 51 (Int32.toNatClampNeg h)) S hG 51 rfl (show vp_in h 60 from fIs_in c6 h1) dX10_matter_160 (rfl) ?_
        exact m_iret S hr hlocks hG hL dX10_matter_161 (by simp only [vMa, kTo, eq_false c6, eq_false c20, il1, il2, ↓reduceIte]; exact (tab9_out csw ..)) (by simp only [kTo, eq_false c6, eq_false c20, il1, il2, il3, ↓reduceIte]) (by rfl)
      ·
        have csx : w = 0 ∨ w = 1 ∨ w = 2 ∨ w = 3 ∨ w = 4 ∨ w = 5 ∨ w = 6 ∨ w = 7 ∨ w = 8 := by simp only [t_eq]; simp; omega
        rcases csx with csx | csx | csx | csx | csx | csx | csx | csx | csx
        ·
          refine lv_tableIn (tgt := 92) (off := 51) hx hb dX10_matter_41 (by rw [csx]; decide) (by rw [csx]; decide) (by rw [csx]; rfl) (by decide) ?_
          refine lv_aload_n hx hb dX10_matter_92 rfl (lv_at hl 0 rfl) ?_
          refine m_ga S hG 41 rfl (hts (.fieldLink RX10 112 "SwarmLineModel" "caseState" "[I") (by decide +kernel)) dX10_matter_93 ?_
          refine lv_iload_n hx hb dX10_matter_96 rfl (lv_at hl 1 rfl) ?_
          refine m_ld (v := r 41 (Int32.toNatClampNeg h)) S hG 41 rfl (show vp_in h 60 from fIs_in c6 h1) dX10_matter_97 (rfl) ?_
          exact m_iret S hr hlocks hG hL dX10_matter_98 (by simp only [vMa, kTo, eq_false c6, eq_false c20, il1, il2, ↓reduceIte]; simp [tab9, csx]) (by simp only [kTo, eq_false c6, eq_false c20, il1, il2, il3, ↓reduceIte]) (by rfl)
        ·
          refine lv_tableIn (tgt := 99) (off := 58) hx hb dX10_matter_41 (by rw [csx]; decide) (by rw [csx]; decide) (by rw [csx]; rfl) (by decide) ?_
          refine lv_aload_n hx hb dX10_matter_99 rfl (lv_at hl 0 rfl) ?_
          refine m_ga S hG 42 rfl (hts (.fieldLink RX10 115 "SwarmLineModel" "caseX" "[I") (by decide +kernel)) dX10_matter_100 ?_
          refine lv_iload_n hx hb dX10_matter_103 rfl (lv_at hl 1 rfl) ?_
          refine m_ld (v := r 42 (Int32.toNatClampNeg h)) S hG 42 rfl (show vp_in h 60 from fIs_in c6 h1) dX10_matter_104 (rfl) ?_
          exact m_iret S hr hlocks hG hL dX10_matter_105 (by simp only [vMa, kTo, eq_false c6, eq_false c20, il1, il2, ↓reduceIte]; simp [tab9, csx]) (by simp only [kTo, eq_false c6, eq_false c20, il1, il2, il3, ↓reduceIte]) (by rfl)
        ·
          refine lv_tableIn (tgt := 106) (off := 65) hx hb dX10_matter_41 (by rw [csx]; decide) (by rw [csx]; decide) (by rw [csx]; rfl) (by decide) ?_
          refine lv_aload_n hx hb dX10_matter_106 rfl (lv_at hl 0 rfl) ?_
          refine m_ga S hG 43 rfl (hts (.fieldLink RX10 118 "SwarmLineModel" "caseY" "[I") (by decide +kernel)) dX10_matter_107 ?_
          refine lv_iload_n hx hb dX10_matter_110 rfl (lv_at hl 1 rfl) ?_
          refine m_ld (v := r 43 (Int32.toNatClampNeg h)) S hG 43 rfl (show vp_in h 60 from fIs_in c6 h1) dX10_matter_111 (rfl) ?_
          exact m_iret S hr hlocks hG hL dX10_matter_112 (by simp only [vMa, kTo, eq_false c6, eq_false c20, il1, il2, ↓reduceIte]; simp [tab9, csx]) (by simp only [kTo, eq_false c6, eq_false c20, il1, il2, il3, ↓reduceIte]) (by rfl)
        ·
          refine lv_tableIn (tgt := 113) (off := 72) hx hb dX10_matter_41 (by rw [csx]; decide) (by rw [csx]; decide) (by rw [csx]; rfl) (by decide) ?_
          refine lv_aload_n hx hb dX10_matter_113 rfl (lv_at hl 0 rfl) ?_
          refine m_ga S hG 45 rfl (hts (.fieldLink RX10 125 "SwarmLineModel" "caseHigh" "[I") (by decide +kernel)) dX10_matter_114 ?_
          refine lv_iload_n hx hb dX10_matter_117 rfl (lv_at hl 1 rfl) ?_
          refine m_ld (v := r 45 (Int32.toNatClampNeg h)) S hG 45 rfl (show vp_in h 60 from fIs_in c6 h1) dX10_matter_118 (rfl) ?_
          exact m_iret S hr hlocks hG hL dX10_matter_119 (by simp only [vMa, kTo, eq_false c6, eq_false c20, il1, il2, ↓reduceIte]; simp [tab9, csx]) (by simp only [kTo, eq_false c6, eq_false c20, il1, il2, il3, ↓reduceIte]) (by rfl)
        ·
          refine lv_tableIn (tgt := 120) (off := 79) hx hb dX10_matter_41 (by rw [csx]; decide) (by rw [csx]; decide) (by rw [csx]; rfl) (by decide) ?_
          refine lv_aload_n hx hb dX10_matter_120 rfl (lv_at hl 0 rfl) ?_
          refine m_ga S hG 46 rfl (hts (.fieldLink RX10 128 "SwarmLineModel" "caseSince" "[I") (by decide +kernel)) dX10_matter_121 ?_
          refine lv_iload_n hx hb dX10_matter_124 rfl (lv_at hl 1 rfl) ?_
          refine m_ld (v := r 46 (Int32.toNatClampNeg h)) S hG 46 rfl (show vp_in h 60 from fIs_in c6 h1) dX10_matter_125 (rfl) ?_
          exact m_iret S hr hlocks hG hL dX10_matter_126 (by simp only [vMa, kTo, eq_false c6, eq_false c20, il1, il2, ↓reduceIte]; simp [tab9, csx]) (by simp only [kTo, eq_false c6, eq_false c20, il1, il2, il3, ↓reduceIte]) (by rfl)
        ·
          refine lv_tableIn (tgt := 127) (off := 86) hx hb dX10_matter_41 (by rw [csx]; decide) (by rw [csx]; decide) (by rw [csx]; rfl) (by decide) ?_
          refine lv_aload_n hx hb dX10_matter_127 rfl (lv_at hl 0 rfl) ?_
          refine m_ga S hG 47 rfl (hts (.fieldLink RX10 131 "SwarmLineModel" "caseMark" "[I") (by decide +kernel)) dX10_matter_128 ?_
          refine lv_iload_n hx hb dX10_matter_131 rfl (lv_at hl 1 rfl) ?_
          refine m_ld (v := r 47 (Int32.toNatClampNeg h)) S hG 47 rfl (show vp_in h 60 from fIs_in c6 h1) dX10_matter_132 (rfl) ?_
          exact m_iret S hr hlocks hG hL dX10_matter_133 (by simp only [vMa, kTo, eq_false c6, eq_false c20, il1, il2, ↓reduceIte]; simp [tab9, csx]) (by simp only [kTo, eq_false c6, eq_false c20, il1, il2, il3, ↓reduceIte]) (by rfl)
        ·
          refine lv_tableIn (tgt := 134) (off := 93) hx hb dX10_matter_41 (by rw [csx]; decide) (by rw [csx]; decide) (by rw [csx]; rfl) (by decide) ?_
          refine lv_aload_n hx hb dX10_matter_134 rfl (lv_at hl 0 rfl) ?_
          refine m_ga S hG 48 rfl (hts (.fieldLink RX10 134 "SwarmLineModel" "caseCalls" "[I") (by decide +kernel)) dX10_matter_135 ?_
          refine lv_iload_n hx hb dX10_matter_138 rfl (lv_at hl 1 rfl) ?_
          refine m_ld (v := r 48 (Int32.toNatClampNeg h)) S hG 48 rfl (show vp_in h 60 from fIs_in c6 h1) dX10_matter_139 (rfl) ?_
          exact m_iret S hr hlocks hG hL dX10_matter_140 (by simp only [vMa, kTo, eq_false c6, eq_false c20, il1, il2, ↓reduceIte]; simp [tab9, csx]) (by simp only [kTo, eq_false c6, eq_false c20, il1, il2, il3, ↓reduceIte]) (by rfl)
        ·
          refine lv_tableIn (tgt := 141) (off := 100) hx hb dX10_matter_41 (by rw [csx]; decide) (by rw [csx]; decide) (by rw [csx]; rfl) (by decide) ?_
          refine lv_aload_n hx hb dX10_matter_141 rfl (lv_at hl 0 rfl) ?_
          refine m_ga S hG 49 rfl (hts (.fieldLink RX10 137 "SwarmLineModel" "caseLatest" "[I") (by decide +kernel)) dX10_matter_142 ?_
          refine lv_iload_n hx hb dX10_matter_145 rfl (lv_at hl 1 rfl) ?_
          refine m_ld (v := r 49 (Int32.toNatClampNeg h)) S hG 49 rfl (show vp_in h 60 from fIs_in c6 h1) dX10_matter_146 (rfl) ?_
          exact m_iret S hr hlocks hG hL dX10_matter_147 (by simp only [vMa, kTo, eq_false c6, eq_false c20, il1, il2, ↓reduceIte]; simp [tab9, csx]) (by simp only [kTo, eq_false c6, eq_false c20, il1, il2, il3, ↓reduceIte]) (by rfl)
        ·
          refine lv_tableIn (tgt := 148) (off := 107) hx hb dX10_matter_41 (by rw [csx]; decide) (by rw [csx]; decide) (by rw [csx]; rfl) (by decide) ?_
          refine lv_aload_n hx hb dX10_matter_148 rfl (lv_at hl 0 rfl) ?_
          refine m_ga S hG 50 rfl (hts (.fieldLink RX10 140 "SwarmLineModel" "caseKeeper" "[I") (by decide +kernel)) dX10_matter_149 ?_
          refine lv_iload_n hx hb dX10_matter_152 rfl (lv_at hl 1 rfl) ?_
          refine m_ld (v := r 50 (Int32.toNatClampNeg h)) S hG 50 rfl (show vp_in h 60 from fIs_in c6 h1) dX10_matter_153 (rfl) ?_
          exact m_iret S hr hlocks hG hL dX10_matter_154 (by simp only [vMa, kTo, eq_false c6, eq_false c20, il1, il2, ↓reduceIte]; simp [tab9, csx]) (by simp only [kTo, eq_false c6, eq_false c20, il1, il2, il3, ↓reduceIte]) (by rfl)
    ·
      refine lv_iconst (v := 2) hx hb dX10_matter_23 (by decide) ?_
      refine lv_goto (tgt := 28) hx hb dX10_matter_24 (by decide) ?_
      refine m_pi S hG hL 0 rfl (hts (.fieldLink RX10 180 "SwarmLineModel" "thrown" "I") (by decide +kernel)) dX10_matter_28 (fun H locs hG hL => ?_)
      refine lv_aload_n hx hb dX10_matter_31 rfl (lv_at hl 0 rfl) ?_
      refine m_gi (v := 2) S hG 0 rfl (hts (.fieldLink RX10 180 "SwarmLineModel" "thrown" "I") (by decide +kernel)) dX10_matter_32 rfl ?_
      refine lv_if_le (tgt := 40) hx hb dX10_matter_35 (by decide) (fun c => absurd c (by decide)) (fun _ => ?_)
      refine lv_iconst (v := 0) hx hb dX10_matter_38 (by decide) ?_
      exact m_iret S hr hlocks hG hL dX10_matter_39 (by simp only [vMa, kTo, eq_false c6, eq_true c20, il1, il2, ↓reduceIte]) (by simp only [kTo, eq_false c6, eq_true c20, il1, il2, il3, ↓reduceIte]) (by rfl)
  ·
    refine lv_iconst (v := 1) hx hb dX10_matter_9 (by decide) ?_
    refine lv_goto (tgt := 28) hx hb dX10_matter_10 (by decide) ?_
    refine m_pi S hG hL 0 rfl (hts (.fieldLink RX10 180 "SwarmLineModel" "thrown" "I") (by decide +kernel)) dX10_matter_28 (fun H locs hG hL => ?_)
    refine lv_aload_n hx hb dX10_matter_31 rfl (lv_at hl 0 rfl) ?_
    refine m_gi (v := 1) S hG 0 rfl (hts (.fieldLink RX10 180 "SwarmLineModel" "thrown" "I") (by decide +kernel)) dX10_matter_32 rfl ?_
    refine lv_if_le (tgt := 40) hx hb dX10_matter_35 (by decide) (fun c => absurd c (by decide)) (fun _ => ?_)
    refine lv_iconst (v := 0) hx hb dX10_matter_38 (by decide) ?_
    exact m_iret S hr hlocks hG hL dX10_matter_39 (by simp only [vMa, kTo, eq_true c6, il1, il2, ↓reduceIte]) (by simp only [kTo, eq_true c6, il1, il2, il3, ↓reduceIte]) (by rfl)
set_option maxHeartbeats 4000000 in
set_option maxRecDepth 100000 in
theorem c_X10_asked {l : Launch} {D : va_G} {cI cZ cB cO cR cJ : ClassId} {Hb : Heap} {lv : Nat → Prop} {ad : Nat → Nat} {ce0 : Nat → va_E} (hlv : lM lv) (i : Int32) (w : Int32) (s : Nat → Int32) (r : Nat → Nat → Int32) (h1 : (s 57).toInt ≤ 12) : mMet l D cI cZ cB cO cR cJ Hb lv ad ce0 yX10_asked wsX10_asked 0 0 [.ref (ad 0), .int i, .int w] s r (some (.int (vAs i w s r))) (upd s 0 0) r := by
  refine Met.ofW (cc := cX10_asked) (maxL := 3) (ret := (some .int)) (by decide) rfl ?_
  intro p0 e0 s0 m0 args below meth c0 s₁ B hml hv
  obtain ⟨rfl, hG, hK⟩ := hv
  have hx := B.exec
  have hb := B.bytes
  have hr := B.returns
  have hts := atoms_spec (ws := wsX10_asked) B.pre
  have hown : s0.vm.findClass RX10 = some m0.cls := findClass_of_methodNamed B.named
  have hlocks := B.notSynchronized
  have S : mX p0 m0 c0 cX10_asked 3 s0 _ wsX10_asked D cI cZ cB cO cR cJ lv := ⟨⟨hx, hb, hml, hown, hts⟩, hK, fun w h => List.mem_cons_of_mem _ (List.mem_append_right _ h), hlv⟩
  have hL : gL Hb [] := gL.nil
  have hl := lv_entry ([.ref (ad 0), .int i, .int w]) (n := 3) (Nat.le_of_ble_eq_true rfl)
  rw [lg_entry_eq]
  generalize (lg_sl ([.ref (ad 0), .int i, .int w]) ++ List.replicate (3 - (lg_sl ([.ref (ad 0), .int i, .int w])).length) Slot.unset).toArray = ls at hl ⊢
  have hl : lv_has ls 3 [(0, .ref (ad 0)), (1, .int i), (2, .int w)] := hl
  refine lv_aload_n hx hb dX10_asked_0 rfl (lv_at hl 0 rfl) ?_
  refine lv_iconst (v := 0) hx hb dX10_asked_1 (by decide) ?_
  refine m_pi S hG hL 0 rfl (hts (.fieldLink RX10 180 "SwarmLineModel" "thrown" "I") (by decide +kernel)) dX10_asked_2 (fun H locs hG hL => ?_)
  refine lv_iload_n hx hb dX10_asked_5 rfl (lv_at hl 1 rfl) ?_
  refine lv_if_lt (tgt := 17) hx hb dX10_asked_6 (by decide) (fun c6 => ?_) (fun c6 => ?_)
  ·
    refine lv_iconst (v := (-1)) hx hb dX10_asked_17 (by decide) ?_
    exact m_iret S hr hlocks hG hL dX10_asked_18 (by simp only [vAs, eq_true c6, il1, il2, il3, ↓reduceIte]) (by rfl) (by rfl)
  ·
    refine lv_iload_n hx hb dX10_asked_9 rfl (lv_at hl 1 rfl) ?_
    refine lv_aload_n hx hb dX10_asked_10 rfl (lv_at hl 0 rfl) ?_
    refine m_gi (v := s 57) S hG 57 rfl (hts (.fieldLink RX10 318 "SwarmLineModel" "asked" "I") (by decide +kernel)) dX10_asked_11 rfl ?_
    refine lv_icmp_lt (tgt := 19) hx hb dX10_asked_14 (by decide) (fun c14 => ?_) (fun c14 => ?_)
    ·
      refine lv_iload_n hx hb dX10_asked_19 rfl (lv_at hl 2 rfl) ?_
      refine lv_if_ne (tgt := 32) hx hb dX10_asked_20 (by decide) (fun c20 => ?_) (fun c20 => ?_)
      ·
        refine lv_iload_n hx hb dX10_asked_32 rfl (lv_at hl 2 rfl) ?_
        refine lv_iconst (v := 1) hx hb dX10_asked_33 (by decide) ?_
        refine lv_icmp_ne (tgt := 46) hx hb dX10_asked_34 (by decide) (fun c34 => ?_) (fun c34 => ?_)
        ·
          refine lv_iconst (v := (-1)) hx hb dX10_asked_46 (by decide) ?_
          exact m_iret S hr hlocks hG hL dX10_asked_47 (by simp only [vAs, eq_false c6, eq_true c14, eq_false c20, eq_false c34, il1, il2, il3, ↓reduceIte]) (by rfl) (by rfl)
        ·
          refine lv_aload_n hx hb dX10_asked_37 rfl (lv_at hl 0 rfl) ?_
          refine m_ga S hG 59 rfl (hts (.fieldLink RX10 158 "SwarmLineModel" "askedAgainst" "[I") (by decide +kernel)) dX10_asked_38 ?_
          refine lv_iload_n hx hb dX10_asked_41 rfl (lv_at hl 1 rfl) ?_
          refine m_ld (v := r 59 (Int32.toNatClampNeg i)) S hG 59 rfl (show vp_in i 12 from by rw [t_lt] at c6 c14; have e : (0 : Int32).toInt = 0 := rfl; exact vp_in_t (by omega) (by omega)) dX10_asked_42 (rfl) ?_
          refine lv_goto (tgt := 47) hx hb dX10_asked_43 (by decide) ?_
          exact m_iret S hr hlocks hG hL dX10_asked_47 (by simp only [vAs, eq_false c6, eq_true c14, eq_false c20, eq_true c34, il1, il2, il3, ↓reduceIte]) (by rfl) (by rfl)
      ·
        refine lv_aload_n hx hb dX10_asked_23 rfl (lv_at hl 0 rfl) ?_
        refine m_ga S hG 58 rfl (hts (.fieldLink RX10 155 "SwarmLineModel" "askedKeeper" "[I") (by decide +kernel)) dX10_asked_24 ?_
        refine lv_iload_n hx hb dX10_asked_27 rfl (lv_at hl 1 rfl) ?_
        refine m_ld (v := r 58 (Int32.toNatClampNeg i)) S hG 58 rfl (show vp_in i 12 from by rw [t_lt] at c6 c14; have e : (0 : Int32).toInt = 0 := rfl; exact vp_in_t (by omega) (by omega)) dX10_asked_28 (rfl) ?_
        refine lv_goto (tgt := 47) hx hb dX10_asked_29 (by decide) ?_
        exact m_iret S hr hlocks hG hL dX10_asked_47 (by simp only [vAs, eq_false c6, eq_true c14, eq_true c20, il1, il2, il3, ↓reduceIte]) (by rfl) (by rfl)
    ·
      refine lv_iconst (v := (-1)) hx hb dX10_asked_17 (by decide) ?_
      exact m_iret S hr hlocks hG hL dX10_asked_18 (by simp only [vAs, eq_false c6, eq_false c14, il1, il2, il3, ↓reduceIte]) (by rfl) (by rfl)
