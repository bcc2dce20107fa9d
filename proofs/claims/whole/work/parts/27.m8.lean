/-! feeding -/
def fdS (s : Nat → Int32) (k : Nat) : Nat → Int32 := upd (upd s 0 0) 61 (s 61 + nI k)
def fdBy (a b c d e : Int32) : Nat → Int32 := fun k => match k with
  | 0 => a >>> (24 &&& 31) | 1 => a >>> (16 &&& 31) | 2 => a >>> (8 &&& 31) | 3 => a >>> (0 &&& 31)
  | 4 => b >>> (24 &&& 31) | 5 => b >>> (16 &&& 31) | 6 => b >>> (8 &&& 31) | 7 => b >>> (0 &&& 31)
  | 8 => c >>> (24 &&& 31) | 9 => c >>> (16 &&& 31) | 10 => c >>> (8 &&& 31) | 11 => c >>> (0 &&& 31)
  | 12 => d >>> (24 &&& 31) | 13 => d >>> (16 &&& 31) | 14 => d >>> (8 &&& 31) | 15 => d >>> (0 &&& 31)
  | 16 => e >>> (24 &&& 31) | 17 => e >>> (16 &&& 31) | 18 => e >>> (8 &&& 31) | _ => e >>> (0 &&& 31)
def fdR (s : Nat → Int32) (r : Nat → Nat → Int32) (b : Nat → Int32) : Nat → Nat → Nat → Int32
  | 0 => r
  | k + 1 => up2 (fdR s r b k) 60 (Int32.toNatClampNeg (s 61 + nI k)) (b k &&& 255)
theorem fdS_0 (s : Nat → Int32) : fdS s 0 = upd s 0 0 := by
  unfold fdS
  rw [show nI 0 = 0 from rfl, Int32.add_zero]
  exact upd_id (upd s 0 0) 61
theorem fdS_1 (s : Nat → Int32) (k : Nat) : upd (fdS s k) 61 ((fdS s k) 61 + 1) = fdS s (k + 1) := by
  show upd (upd (upd s 0 0) 61 (s 61 + nI k)) 61 (s 61 + nI k + 1) = upd (upd s 0 0) 61 (s 61 + nI (k + 1))
  rw [upd_tw, ← nI_1, Int32.add_assoc]
theorem fdS_b {s : Nat → Int32} (h0 : 0 ≤ (s 61).toInt) (h1 : (s 61).toInt ≤ 400) (c : s 61 + 20 ≤ 400) {k : Nat} (hk : k < 20) : 0 ≤ ((fdS s k) 61).toInt ∧ ((fdS s k) 61).toInt < 400 := by
  have e : (nI k).toInt = k := nI_toInt (by omega)
  have e2 : (20 : Int32).toInt = 20 := rfl
  have e3 : (400 : Int32).toInt = 400 := rfl
  rw [t_le, t_add (by omega) (by omega), e2, e3] at c
  show 0 ≤ (s 61 + nI k).toInt ∧ (s 61 + nI k).toInt < 400
  rw [t_add (by omega) (by omega), e]
  omega
def vFd (s : Nat → Int32) : Int32 := if s 61 + 20 ≤ 400 then fdS s 20 61 else -1
def sFd (s : Nat → Int32) : Nat → Int32 := if s 61 + 20 ≤ 400 then fdS s 20 else upd s 0 0
def rFd (a b c d e : Int32) (s : Nat → Int32) (r : Nat → Nat → Int32) : Nat → Nat → Int32 := if s 61 + 20 ≤ 400 then fdR s r (fdBy a b c d e) 20 else r
set_option maxHeartbeats 4000000 in
set_option maxRecDepth 100000 in
theorem c_X10_feed {l : Launch} {D : va_G} {cI cZ cB cO cR cJ : ClassId} {Hb : Heap} {lv : Nat → Prop} {ad : Nat → Nat} {ce0 : Nat → va_E} (hlv : lM lv) (a : Int32) (b : Int32) (c : Int32) (d : Int32) (e : Int32) (s : Nat → Int32) (r : Nat → Nat → Int32) (h0 : 0 ≤ (s 61).toInt) (h1 : (s 61).toInt ≤ 400) : mMet l D cI cZ cB cO cR cJ Hb lv ad ce0 yX10_feed wsX10_feed 1 21 [.ref (ad 0), .int a, .int b, .int c, .int d, .int e] s r (some (.int (vFd s))) (sFd s) (rFd a b c d e s r) := by
  refine Met.ofW (cc := cX10_feed) (maxL := 7) (ret := (some .int)) (by decide) rfl ?_
  intro p0 e0 s0 m0 args below meth c0 s₁ B hml hv
  obtain ⟨rfl, hG, hK⟩ := hv
  have hx := B.exec
  have hb := B.bytes
  have hr := B.returns
  have hts := atoms_spec (ws := wsX10_feed) B.pre
  have hown : s0.vm.findClass RX10 = some m0.cls := findClass_of_methodNamed B.named
  have hlocks := B.notSynchronized
  have S : mX p0 m0 c0 cX10_feed 7 s0 _ wsX10_feed D cI cZ cB cO cR cJ lv := ⟨⟨hx, hb, hml, hown, hts⟩, hK, fun w h => List.mem_cons_of_mem _ (List.mem_append_right _ h), hlv⟩
  have hL : gL Hb [] := gL.nil
  have hl := lv_entry ([.ref (ad 0), .int a, .int b, .int c, .int d, .int e]) (n := 7) (Nat.le_of_ble_eq_true rfl)
  rw [lg_entry_eq]
  generalize (lg_sl ([.ref (ad 0), .int a, .int b, .int c, .int d, .int e]) ++ List.replicate (7 - (lg_sl ([.ref (ad 0), .int a, .int b, .int c, .int d, .int e])).length) Slot.unset).toArray = ls at hl ⊢
  have hl : lv_has ls 7 [(0, .ref (ad 0)), (1, .int a), (2, .int b), (3, .int c), (4, .int d), (5, .int e)] := hl
  refine lv_aload_n hx hb dX10_feed_0 rfl (lv_at hl 0 rfl) ?_
  refine lv_iconst (v := 0) hx hb dX10_feed_1 (by decide) ?_
  refine m_pi S hG hL 0 rfl (hts (.fieldLink RX10 180 "SwarmLineModel" "thrown" "I") (by decide +kernel)) dX10_feed_2 (fun H locs hG hL => ?_)
  refine lv_aload_n hx hb dX10_feed_5 rfl (lv_at hl 0 rfl) ?_
  refine m_gi (v := s 61) S hG 61 rfl (hts (.fieldLink RX10 195 "SwarmLineModel" "taped" "I") (by decide +kernel)) dX10_feed_6 rfl ?_
  refine lv_bipush (v := 20) hx hb dX10_feed_9 (by decide) ?_
  refine lv_iadd hx hb dX10_feed_11 ?_
  refine lv_sipush (v := 400) hx hb dX10_feed_12 (by decide) ?_
  refine lv_icmp_le (tgt := 20) hx hb dX10_feed_15 (by decide) (fun c15 => ?_) (fun c15 => ?_)
  ·
    have hG : gW D Hb lv ad (mJ ce0 ad cI cZ (fdS s 0) (fdR s r (fdBy a b c d e) 0)) H := by rw [fdS_0]; exact hG
    refine lv_bipush (v := 24) hx hb dX10_feed_20 (by decide) ?_
    refine lv_istore (lv' := [(6, .int 24), (0, .ref (ad 0)), (1, .int a), (2, .int b), (3, .int c), (4, .int d), (5, .int e)]) hx hb dX10_feed_22 hl (by decide) rfl (fun ls hl => ?_)
    refine lv_iload hx hb dX10_feed_24 (lv_at hl 0 rfl) ?_
    refine lv_if_lt (tgt := 43) hx hb dX10_feed_26 (by decide) (fun c => absurd c (by decide)) (fun _ => ?_)
    refine lv_aload_n hx hb dX10_feed_29 rfl (lv_at hl 1 rfl) ?_
    refine lv_iload_n hx hb dX10_feed_30 rfl (lv_at hl 2 rfl) ?_
    refine lv_iload hx hb dX10_feed_31 (lv_at hl 0 rfl) ?_
    refine lv_ishr hx hb dX10_feed_33 ?_
    refine m_callV (n := 1) (As := [.int (a >>> (24 &&& 31))]) (rest := []) (st1 := []) S hG hL (c_X10_byteCame hlv (a >>> (24 &&& 31)) (fdS s 0) (fdR s r (fdBy a b c d e) 0) ((fdS_b h0 h1 c15 (k := 0) (by decide)).1) ((fdS_b h0 h1 c15 (k := 0) (by decide)).2)) gX10_feed_X10_byteCame rfl (by decide +kernel) ⟨Nat.le_of_ble_eq_true rfl, Nat.le_of_ble_eq_true rfl⟩ rfl hl.1 rfl (Nat.le_of_ble_eq_true rfl) dX10_feed_34 ⟨Nat.zero_le _, Nat.zero_le _⟩ (rfl) (fun H locs hG hL => ?_)
    have hG : gW D Hb lv ad (mJ ce0 ad cI cZ (fdS s 1) (fdR s r (fdBy a b c d e) 1)) H := by rw [← fdS_1]; exact hG
    refine lv_iinc (v := 16) (lv' := [(6, .int 16), (0, .ref (ad 0)), (1, .int a), (2, .int b), (3, .int c), (4, .int d), (5, .int e)]) hx hb dX10_feed_37 hl (k := 0) rfl (by rfl) (by decide) rfl (fun ls hl => ?_)
    refine lv_goto (tgt := 24) hx hb dX10_feed_40 (by decide) ?_
    refine lv_iload hx hb dX10_feed_24 (lv_at hl 0 rfl) ?_
    refine lv_if_lt (tgt := 43) hx hb dX10_feed_26 (by decide) (fun c => absurd c (by decide)) (fun _ => ?_)
    refine lv_aload_n hx hb dX10_feed_29 rfl (lv_at hl 1 rfl) ?_
    refine lv_iload_n hx hb dX10_feed_30 rfl (lv_at hl 2 rfl) ?_
    refine lv_iload hx hb dX10_feed_31 (lv_at hl 0 rfl) ?_
    refine lv_ishr hx hb dX10_feed_33 ?_
    refine m_callV (n := 1) (As := [.int (a >>> (16 &&& 31))]) (rest := []) (st1 := []) S hG hL (c_X10_byteCame hlv (a >>> (16 &&& 31)) (fdS s 1) (fdR s r (fdBy a b c d e) 1) ((fdS_b h0 h1 c15 (k := 1) (by decide)).1) ((fdS_b h0 h1 c15 (k := 1) (by decide)).2)) gX10_feed_X10_byteCame rfl (by decide +kernel) ⟨Nat.le_of_ble_eq_true rfl, Nat.le_of_ble_eq_true rfl⟩ rfl hl.1 rfl (Nat.le_of_ble_eq_true rfl) dX10_feed_34 ⟨Nat.zero_le _, Nat.zero_le _⟩ (rfl) (fun H locs hG hL => ?_)
    have hG : gW D Hb lv ad (mJ ce0 ad cI cZ (fdS s 2) (fdR s r (fdBy a b c d e) 2)) H := by rw [← fdS_1]; exact hG
    refine lv_iinc (v := 8) (lv' := [(6, .int 8), (0, .ref (ad 0)), (1, .int a), (2, .int b), (3, .int c), (4, .int d), (5, .int e)]) hx hb dX10_feed_37 hl (k := 0) rfl (by rfl) (by decide) rfl (fun ls hl => ?_)
    refine lv_goto (tgt := 24) hx hb dX10_feed_40 (by decide) ?_
    refine lv_iload hx hb dX10_feed_24 (lv_at hl 0 rfl) ?_
    refine lv_if_lt (tgt := 43) hx hb dX10_feed_26 (by decide) (fun c => absurd c (by decide)) (fun _ => ?_)
    refine lv_aload_n hx hb dX10_feed_29 rfl (lv_at hl 1 rfl) ?_
    refine lv_iload_n hx hb dX10_feed_30 rfl (lv_at hl 2 rfl) ?_
    refine lv_iload hx hb dX10_feed_31 (lv_at hl 0 rfl) ?_
    refine lv_ishr hx hb dX10_feed_33 ?_
    refine m_callV (n := 1) (As := [.int (a >>> (8 &&& 31))]) (rest := []) (st1 := []) S hG hL (c_X10_byteCame hlv (a >>> (8 &&& 31)) (fdS s 2) (fdR s r (fdBy a b c d e) 2) ((fdS_b h0 h1 c15 (k := 2) (by decide)).1) ((fdS_b h0 h1 c15 (k := 2) (by decide)).2)) gX10_feed_X10_byteCame rfl (by decide +kernel) ⟨Nat.le_of_ble_eq_true rfl, Nat.le_of_ble_eq_true rfl⟩ rfl hl.1 rfl (Nat.le_of_ble_eq_true rfl) dX10_feed_34 ⟨Nat.zero_le _, Nat.zero_le _⟩ (rfl) (fun H locs hG hL => ?_)
    have hG : gW D Hb lv ad (mJ ce0 ad cI cZ (fdS s 3) (fdR s r (fdBy a b c d e) 3)) H := by rw [← fdS_1]; exact hG
    refine lv_iinc (v := 0) (lv' := [(6, .int 0), (0, .ref (ad 0)), (1, .int a), (2, .int b), (3, .int c), (4, .int d), (5, .int e)]) hx hb dX10_feed_37 hl (k := 0) rfl (by rfl) (by decide) rfl (fun ls hl => ?_)
    refine lv_goto (tgt := 24) hx hb dX10_feed_40 (by decide) ?_
    refine lv_iload hx hb dX10_feed_24 (lv_at hl 0 rfl) ?_
    refine lv_if_lt (tgt := 43) hx hb dX10_feed_26 (by decide) (fun c => absurd c (by decide)) (fun _ => ?_)
    refine lv_aload_n hx hb dX10_feed_29 rfl (lv_at hl 1 rfl) ?_
    refine lv_iload_n hx hb dX10_feed_30 rfl (lv_at hl 2 rfl) ?_
    refine lv_iload hx hb dX10_feed_31 (lv_at hl 0 rfl) ?_
    refine lv_ishr hx hb dX10_feed_33 ?_
    refine m_callV (n := 1) (As := [.int (a >>> (0 &&& 31))]) (rest := []) (st1 := []) S hG hL (c_X10_byteCame hlv (a >>> (0 &&& 31)) (fdS s 3) (fdR s r (fdBy a b c d e) 3) ((fdS_b h0 h1 c15 (k := 3) (by decide)).1) ((fdS_b h0 h1 c15 (k := 3) (by decide)).2)) gX10_feed_X10_byteCame rfl (by decide +kernel) ⟨Nat.le_of_ble_eq_true rfl, Nat.le_of_ble_eq_true rfl⟩ rfl hl.1 rfl (Nat.le_of_ble_eq_true rfl) dX10_feed_34 ⟨Nat.zero_le _, Nat.zero_le _⟩ (rfl) (fun H locs hG hL => ?_)
    have hG : gW D Hb lv ad (mJ ce0 ad cI cZ (fdS s 4) (fdR s r (fdBy a b c d e) 4)) H := by rw [← fdS_1]; exact hG
    refine lv_iinc (v := (-8)) (lv' := [(6, .int (-8)), (0, .ref (ad 0)), (1, .int a), (2, .int b), (3, .int c), (4, .int d), (5, .int e)]) hx hb dX10_feed_37 hl (k := 0) rfl (by rfl) (by decide) rfl (fun ls hl => ?_)
    refine lv_goto (tgt := 24) hx hb dX10_feed_40 (by decide) ?_
    refine lv_iload hx hb dX10_feed_24 (lv_at hl 0 rfl) ?_
    refine lv_if_lt (tgt := 43) hx hb dX10_feed_26 (by decide) (fun _ => ?_) (fun c => absurd c (by decide))
    refine lv_bipush (v := 24) hx hb dX10_feed_43 (by decide) ?_
    refine lv_istore (lv' := [(6, .int 24), (0, .ref (ad 0)), (1, .int a), (2, .int b), (3, .int c), (4, .int d), (5, .int e)]) hx hb dX10_feed_45 hl (by decide) rfl (fun ls hl => ?_)
    refine lv_iload hx hb dX10_feed_47 (lv_at hl 0 rfl) ?_
    refine lv_if_lt (tgt := 66) hx hb dX10_feed_49 (by decide) (fun c => absurd c (by decide)) (fun _ => ?_)
    refine lv_aload_n hx hb dX10_feed_52 rfl (lv_at hl 1 rfl) ?_
    refine lv_iload_n hx hb dX10_feed_53 rfl (lv_at hl 3 rfl) ?_
    refine lv_iload hx hb dX10_feed_54 (lv_at hl 0 rfl) ?_
    refine lv_ishr hx hb dX10_feed_56 ?_
    refine m_callV (n := 1) (As := [.int (b >>> (24 &&& 31))]) (rest := []) (st1 := []) S hG hL (c_X10_byteCame hlv (b >>> (24 &&& 31)) (fdS s 4) (fdR s r (fdBy a b c d e) 4) ((fdS_b h0 h1 c15 (k := 4) (by decide)).1) ((fdS_b h0 h1 c15 (k := 4) (by decide)).2)) gX10_feed_X10_byteCame rfl (by decide +kernel) ⟨Nat.le_of_ble_eq_true rfl, Nat.le_of_ble_eq_true rfl⟩ rfl hl.1 rfl (Nat.le_of_ble_eq_true rfl) dX10_feed_57 ⟨Nat.zero_le _, Nat.zero_le _⟩ (rfl) (fun H locs hG hL => ?_)
    have hG : gW D Hb lv ad (mJ ce0 ad cI cZ (fdS s 5) (fdR s r (fdBy a b c d e) 5)) H := by rw [← fdS_1]; exact hG
    refine lv_iinc (v := 16) (lv' := [(6, .int 16), (0, .ref (ad 0)), (1, .int a), (2, .int b), (3, .int c), (4, .int d), (5, .int e)]) hx hb dX10_feed_60 hl (k := 0) rfl (by rfl) (by decide) rfl (fun ls hl => ?_)
    refine lv_goto (tgt := 47) hx hb dX10_feed_63 (by decide) ?_
    refine lv_iload hx hb dX10_feed_47 (lv_at hl 0 rfl) ?_
    refine lv_if_lt (tgt := 66) hx hb dX10_feed_49 (by decide) (fun c => absurd c (by decide)) (fun _ => ?_)
    refine lv_aload_n hx hb dX10_feed_52 rfl (lv_at hl 1 rfl) ?_
    refine lv_iload_n hx hb dX10_feed_53 rfl (lv_at hl 3 rfl) ?_
    refine lv_iload hx hb dX10_feed_54 (lv_at hl 0 rfl) ?_
    refine lv_ishr hx hb dX10_feed_56 ?_
    refine m_callV (n := 1) (As := [.int (b >>> (16 &&& 31))]) (rest := []) (st1 := []) S hG hL (c_X10_byteCame hlv (b >>> (16 &&& 31)) (fdS s 5) (fdR s r (fdBy a b c d e) 5) ((fdS_b h0 h1 c15 (k := 5) (by decide)).1) ((fdS_b h0 h1 c15 (k := 5) (by decide)).2)) gX10_feed_X10_byteCame rfl (by decide +kernel) ⟨Nat.le_of_ble_eq_true rfl, Nat.le_of_ble_eq_true rfl⟩ rfl hl.1 rfl (Nat.le_of_ble_eq_true rfl) dX10_feed_57 ⟨Nat.zero_le _, Nat.zero_le _⟩ (rfl) (fun H locs hG hL => ?_)
    have hG : gW D Hb lv ad (mJ ce0 ad cI cZ (fdS s 6) (fdR s r (fdBy a b c d e) 6)) H := by rw [← fdS_1]; exact hG
    refine lv_iinc (v := 8) (lv' := [(6, .int 8), (0, .ref (ad 0)), (1, .int a), (2, .int b), (3, .int c), (4, .int d), (5, .int e)]) hx hb dX10_feed_60 hl (k := 0) rfl (by rfl) (by decide) rfl (fun ls hl => ?_)
    refine lv_goto (tgt := 47) hx hb dX10_feed_63 (by decide) ?_
    refine lv_iload hx hb dX10_feed_47 (lv_at hl 0 rfl) ?_
    refine lv_if_lt (tgt := 66) hx hb dX10_feed_49 (by decide) (fun c => absurd c (by decide)) (fun _ => ?_)
    refine lv_aload_n hx hb dX10_feed_52 rfl (lv_at hl 1 rfl) ?_
    refine lv_iload_n hx hb dX10_feed_53 rfl (lv_at hl 3 rfl) ?_
    refine lv_iload hx hb dX10_feed_54 (lv_at hl 0 rfl) ?_
    refine lv_ishr hx hb dX10_feed_56 ?_
    refine m_callV (n := 1) (As := [.int (b >>> (8 &&& 31))]) (rest := []) (st1 := []) S hG hL (c_X10_byteCame hlv (b >>> (8 &&& 31)) (fdS s 6) (fdR s r (fdBy a b c d e) 6) ((fdS_b h0 h1 c15 (k := 6) (by decide)).1) ((fdS_b h0 h1 c15 (k := 6) (by decide)).2)) gX10_feed_X10_byteCame rfl (by decide +kernel) ⟨Nat.le_of_ble_eq_true rfl, Nat.le_of_ble_eq_true rfl⟩ rfl hl.1 rfl (Nat.le_of_ble_eq_true rfl) dX10_feed_57 ⟨Nat.zero_le _, Nat.zero_le _⟩ (rfl) (fun H locs hG hL => ?_)
    have hG : gW D Hb lv ad (mJ ce0 ad cI cZ (fdS s 7) (fdR s r (fdBy a b c d e) 7)) H := by rw [← fdS_1]; exact hG
    refine lv_iinc (v := 0) (lv' := [(6, .int 0), (0, .ref (ad 0)), (1, .int a), (2, .int b), (3, .int c), (4, .int d), (5, .int e)]) hx hb dX10_feed_60 hl (k := 0) rfl (by rfl) (by decide) rfl (fun ls hl => ?_)
    refine lv_goto (tgt := 47) hx hb dX10_feed_63 (by decide) ?_
    refine lv_iload hx hb dX10_feed_47 (lv_at hl 0 rfl) ?_
    refine lv_if_lt (tgt := 66) hx hb dX10_feed_49 (by decide) (fun c => absurd c (by decide)) (fun _ => ?_)
    refine lv_aload_n hx hb dX10_feed_52 rfl (lv_at hl 1 rfl) ?_
    refine lv_iload_n hx hb dX10_feed_53 rfl (lv_at hl 3 rfl) ?_
    refine lv_iload hx hb dX10_feed_54 (lv_at hl 0 rfl) ?_
    refine lv_ishr hx hb dX10_feed_56 ?_
    refine m_callV (n := 1) (As := [.int (b >>> (0 &&& 31))]) (rest := []) (st1 := []) S hG hL (c_X10_byteCame hlv (b >>> (0 &&& 31)) (fdS s 7) (fdR s r (fdBy a b c d e) 7) ((fdS_b h0 h1 c15 (k := 7) (by decide)).1) ((fdS_b h0 h1 c15 (k := 7) (by decide)).2)) gX10_feed_X10_byteCame rfl (by decide +kernel) ⟨Nat.le_of_ble_eq_true rfl, Nat.le_of_ble_eq_true rfl⟩ rfl hl.1 rfl (Nat.le_of_ble_eq_true rfl) dX10_feed_57 ⟨Nat.zero_le _, Nat.zero_le _⟩ (rfl) (fun H locs hG hL => ?_)
    have hG : gW D Hb lv ad (mJ ce0 ad cI cZ (fdS s 8) (fdR s r (fdBy a b c d e) 8)) H := by rw [← fdS_1]; exact hG
    refine lv_iinc (v := (-8)) (lv' := [(6, .int (-8)), (0, .ref (ad 0)), (1, .int a), (2, .int b), (3, .int c), (4, .int d), (5, .int e)]) hx hb dX10_feed_60 hl (k := 0) rfl (by rfl) (by decide) rfl (fun ls hl => ?_)
    refine lv_goto (tgt := 47) hx hb dX10_feed_63 (by decide) ?_
    refine lv_iload hx hb dX10_feed_47 (lv_at hl 0 rfl) ?_
    refine lv_if_lt (tgt := 66) hx hb dX10_feed_49 (by decide) (fun _ => ?_) (fun c => absurd c (by decide))
    refine lv_bipush (v := 24) hx hb dX10_feed_66 (by decide) ?_
    refine lv_istore (lv' := [(6, .int 24), (0, .ref (ad 0)), (1, .int a), (2, .int b), (3, .int c), (4, .int d), (5, .int e)]) hx hb dX10_feed_68 hl (by decide) rfl (fun ls hl => ?_)
    refine lv_iload hx hb dX10_feed_70 (lv_at hl 0 rfl) ?_
    refine lv_if_lt (tgt := 89) hx hb dX10_feed_72 (by decide) (fun c => absurd c (by decide)) (fun _ => ?_)
    refine lv_aload_n hx hb dX10_feed_75 rfl (lv_at hl 1 rfl) ?_
    refine lv_iload_n hx hb dX10_feed_76 rfl (lv_at hl 4 rfl) ?_
    refine lv_iload hx hb dX10_feed_77 (lv_at hl 0 rfl) ?_
    refine lv_ishr hx hb dX10_feed_79 ?_
    refine m_callV (n := 1) (As := [.int (c >>> (24 &&& 31))]) (rest := []) (st1 := []) S hG hL (c_X10_byteCame hlv (c >>> (24 &&& 31)) (fdS s 8) (fdR s r (fdBy a b c d e) 8) ((fdS_b h0 h1 c15 (k := 8) (by decide)).1) ((fdS_b h0 h1 c15 (k := 8) (by decide)).2)) gX10_feed_X10_byteCame rfl (by decide +kernel) ⟨Nat.le_of_ble_eq_true rfl, Nat.le_of_ble_eq_true rfl⟩ rfl hl.1 rfl (Nat.le_of_ble_eq_true rfl) dX10_feed_80 ⟨Nat.zero_le _, Nat.zero_le _⟩ (rfl) (fun H locs hG hL => ?_)
    have hG : gW D Hb lv ad (mJ ce0 ad cI cZ (fdS s 9) (fdR s r (fdBy a b c d e) 9)) H := by rw [← fdS_1]; exact hG
    refine lv_iinc (v := 16) (lv' := [(6, .int 16), (0, .ref (ad 0)), (1, .int a), (2, .int b), (3, .int c), (4, .int d), (5, .int e)]) hx hb dX10_feed_83 hl (k := 0) rfl (by rfl) (by decide) rfl (fun ls hl => ?_)
    refine lv_goto (tgt := 70) hx hb dX10_feed_86 (by decide) ?_
    refine lv_iload hx hb dX10_feed_70 (lv_at hl 0 rfl) ?_
    refine lv_if_lt (tgt := 89) hx hb dX10_feed_72 (by decide) (fun c => absurd c (by decide)) (fun _ => ?_)
    refine lv_aload_n hx hb dX10_feed_75 rfl (lv_at hl 1 rfl) ?_
    refine lv_iload_n hx hb dX10_feed_76 rfl (lv_at hl 4 rfl) ?_
    refine lv_iload hx hb dX10_feed_77 (lv_at hl 0 rfl) ?_
    refine lv_ishr hx hb dX10_feed_79 ?_
    refine m_callV (n := 1) (As := [.int (c >>> (16 &&& 31))]) (rest := []) (st1 := []) S hG hL (c_X10_byteCame hlv (c >>> (16 &&& 31)) (fdS s 9) (fdR s r (fdBy a b c d e) 9) ((fdS_b h0 h1 c15 (k := 9) (by decide)).1) ((fdS_b h0 h1 c15 (k := 9) (by decide)).2)) gX10_feed_X10_byteCame rfl (by decide +kernel) ⟨Nat.le_of_ble_eq_true rfl, Nat.le_of_ble_eq_true rfl⟩ rfl hl.1 rfl (Nat.le_of_ble_eq_true rfl) dX10_feed_80 ⟨Nat.zero_le _, Nat.zero_le _⟩ (rfl) (fun H locs hG hL => ?_)
    have hG : gW D Hb lv ad (mJ ce0 ad cI cZ (fdS s 10) (fdR s r (fdBy a b c d e) 10)) H := by rw [← fdS_1]; exact hG
    refine lv_iinc (v := 8) (lv' := [(6, .int 8), (0, .ref (ad 0)), (1, .int a), (2, .int b), (3, .int c), (4, .int d), (5, .int e)]) hx hb dX10_feed_83 hl (k := 0) rfl (by rfl) (by decide) rfl (fun ls hl => ?_)
    refine lv_goto (tgt := 70) hx hb dX10_feed_86 (by decide) ?_
    refine lv_iload hx hb dX10_feed_70 (lv_at hl 0 rfl) ?_
    refine lv_if_lt (tgt := 89) hx hb dX10_feed_72 (by decide) (fun c => absurd c (by decide)) (fun _ => ?_)
    refine lv_aload_n hx hb dX10_feed_75 rfl (lv_at hl 1 rfl) ?_
    refine lv_iload_n hx hb dX10_feed_76 rfl (lv_at hl 4 rfl) ?_
    refine lv_iload hx hb dX10_feed_77 (lv_at hl 0 rfl) ?_
    refine lv_ishr hx hb dX10_feed_79 ?_
    refine m_callV (n := 1) (As := [.int (c >>> (8 &&& 31))]) (rest := []) (st1 := []) S hG hL (c_X10_byteCame hlv (c >>> (8 &&& 31)) (fdS s 10) (fdR s r (fdBy a b c d e) 10) ((fdS_b h0 h1 c15 (k := 10) (by decide)).1) ((fdS_b h0 h1 c15 (k := 10) (by decide)).2)) gX10_feed_X10_byteCame rfl (by decide +kernel) ⟨Nat.le_of_ble_eq_true rfl, Nat.le_of_ble_eq_true rfl⟩ rfl hl.1 rfl (Nat.le_of_ble_eq_true rfl) dX10_feed_80 ⟨Nat.zero_le _, Nat.zero_le _⟩ (rfl) (fun H locs hG hL => ?_)
    have hG : gW D Hb lv ad (mJ ce0 ad cI cZ (fdS s 11) (fdR s r (fdBy a b c d e) 11)) H := by rw [← fdS_1]; exact hG
    refine lv_iinc (v := 0) (lv' := [(6, .int 0), (0, .ref (ad 0)), (1, .int a), (2, .int b), (3, .int c), (4, .int d), (5, .int e)]) hx hb dX10_feed_83 hl (k := 0) rfl (by rfl) (by decide) rfl (fun ls hl => ?_)
    refine lv_goto (tgt := 70) hx hb dX10_feed_86 (by decide) ?_
    refine lv_iload hx hb dX10_feed_70 (lv_at hl 0 rfl) ?_
    refine lv_if_lt (tgt := 89) hx hb dX10_feed_72 (by decide) (fun c => absurd c (by decide)) (fun _ => ?_)
    refine lv_aload_n hx hb dX10_feed_75 rfl (lv_at hl 1 rfl) ?_
    refine lv_iload_n hx hb dX10_feed_76 rfl (lv_at hl 4 rfl) ?_
    refine lv_iload hx hb dX10_feed_77 (lv_at hl 0 rfl) ?_
    refine lv_ishr hx hb dX10_feed_79 ?_
    refine m_callV (n := 1) (As := [.int (c >>> (0 &&& 31))]) (rest := []) (st1 := []) S hG hL (c_X10_byteCame hlv (c >>> (0 &&& 31)) (fdS s 11) (fdR s r (fdBy a b c d e) 11) ((fdS_b h0 h1 c15 (k := 11) (by decide)).1) ((fdS_b h0 h1 c15 (k := 11) (by decide)).2)) gX10_feed_X10_byteCame rfl (by decide +kernel) ⟨Nat.le_of_ble_eq_true rfl, Nat.le_of_ble_eq_true rfl⟩ rfl hl.1 rfl (Nat.le_of_ble_eq_true rfl) dX10_feed_80 ⟨Nat.zero_le _, Nat.zero_le _⟩ (rfl) (fun H locs hG hL => ?_)
    have hG : gW D Hb lv ad (mJ ce0 ad cI cZ (fdS s 12) (fdR s r (fdBy a b c d e) 12)) H := by rw [← fdS_1]; exact hG
    refine lv_iinc (v := (-8)) (lv' := [(6, .int (-8)), (0, .ref (ad 0)), (1, .int a), (2, .int b), (3, .int c), (4, .int d), (5, .int e)]) hx hb dX10_feed_83 hl (k := 0) rfl (by rfl) (by decide) rfl (fun ls hl => ?_)
    refine lv_goto (tgt := 70) hx hb dX10_feed_86 (by decide) ?_
    refine lv_iload hx hb dX10_feed_70 (lv_at hl 0 rfl) ?_
    refine lv_if_lt (tgt := 89) hx hb dX10_feed_72 (by decide) (fun _ => ?_) (fun c => absurd c (by decide))
    refine lv_bipush (v := 24) hx hb dX10_feed_89 (by decide) ?_
    refine lv_istore (lv' := [(6, .int 24), (0, .ref (ad 0)), (1, .int a), (2, .int b), (3, .int c), (4, .int d), (5, .int e)]) hx hb dX10_feed_91 hl (by decide) rfl (fun ls hl => ?_)
    refine lv_iload hx hb dX10_feed_93 (lv_at hl 0 rfl) ?_
    refine lv_if_lt (tgt := 113) hx hb dX10_feed_95 (by decide) (fun c => absurd c (by decide)) (fun _ => ?_)
    refine lv_aload_n hx hb dX10_feed_98 rfl (lv_at hl 1 rfl) ?_
    refine lv_iload hx hb dX10_feed_99 (lv_at hl 5 rfl) ?_
    refine lv_iload hx hb dX10_feed_101 (lv_at hl 0 rfl) ?_
    refine lv_ishr hx hb dX10_feed_103 ?_
    refine m_callV (n := 1) (As := [.int (d >>> (24 &&& 31))]) (rest := []) (st1 := []) S hG hL (c_X10_byteCame hlv (d >>> (24 &&& 31)) (fdS s 12) (fdR s r (fdBy a b c d e) 12) ((fdS_b h0 h1 c15 (k := 12) (by decide)).1) ((fdS_b h0 h1 c15 (k := 12) (by decide)).2)) gX10_feed_X10_byteCame rfl (by decide +kernel) ⟨Nat.le_of_ble_eq_true rfl, Nat.le_of_ble_eq_true rfl⟩ rfl hl.1 rfl (Nat.le_of_ble_eq_true rfl) dX10_feed_104 ⟨Nat.zero_le _, Nat.zero_le _⟩ (rfl) (fun H locs hG hL => ?_)
    have hG : gW D Hb lv ad (mJ ce0 ad cI cZ (fdS s 13) (fdR s r (fdBy a b c d e) 13)) H := by rw [← fdS_1]; exact hG
    refine lv_iinc (v := 16) (lv' := [(6, .int 16), (0, .ref (ad 0)), (1, .int a), (2, .int b), (3, .int c), (4, .int d), (5, .int e)]) hx hb dX10_feed_107 hl (k := 0) rfl (by rfl) (by decide) rfl (fun ls hl => ?_)
    refine lv_goto (tgt := 93) hx hb dX10_feed_110 (by decide) ?_
    refine lv_iload hx hb dX10_feed_93 (lv_at hl 0 rfl) ?_
    refine lv_if_lt (tgt := 113) hx hb dX10_feed_95 (by decide) (fun c => absurd c (by decide)) (fun _ => ?_)
    refine lv_aload_n hx hb dX10_feed_98 rfl (lv_at hl 1 rfl) ?_
    refine lv_iload hx hb dX10_feed_99 (lv_at hl 5 rfl) ?_
    refine lv_iload hx hb dX10_feed_101 (lv_at hl 0 rfl) ?_
    refine lv_ishr hx hb dX10_feed_103 ?_
    refine m_callV (n := 1) (As := [.int (d >>> (16 &&& 31))]) (rest := []) (st1 := []) S hG hL (c_X10_byteCame hlv (d >>> (16 &&& 31)) (fdS s 13) (fdR s r (fdBy a b c d e) 13) ((fdS_b h0 h1 c15 (k := 13) (by decide)).1) ((fdS_b h0 h1 c15 (k := 13) (by decide)).2)) gX10_feed_X10_byteCame rfl (by decide +kernel) ⟨Nat.le_of_ble_eq_true rfl, Nat.le_of_ble_eq_true rfl⟩ rfl hl.1 rfl (Nat.le_of_ble_eq_true rfl) dX10_feed_104 ⟨Nat.zero_le _, Nat.zero_le _⟩ (rfl) (fun H locs hG hL => ?_)
    have hG : gW D Hb lv ad (mJ ce0 ad cI cZ (fdS s 14) (fdR s r (fdBy a b c d e) 14)) H := by rw [← fdS_1]; exact hG
    refine lv_iinc (v := 8) (lv' := [(6, .int 8), (0, .ref (ad 0)), (1, .int a), (2, .int b), (3, .int c), (4, .int d), (5, .int e)]) hx hb dX10_feed_107 hl (k := 0) rfl (by rfl) (by decide) rfl (fun ls hl => ?_)
    refine lv_goto (tgt := 93) hx hb dX10_feed_110 (by decide) ?_
    refine lv_iload hx hb dX10_feed_93 (lv_at hl 0 rfl) ?_
    refine lv_if_lt (tgt := 113) hx hb dX10_feed_95 (by decide) (fun c => absurd c (by decide)) (fun _ => ?_)
    refine lv_aload_n hx hb dX10_feed_98 rfl (lv_at hl 1 rfl) ?_
    refine lv_iload hx hb dX10_feed_99 (lv_at hl 5 rfl) ?_
    refine lv_iload hx hb dX10_feed_101 (lv_at hl 0 rfl) ?_
    refine lv_ishr hx hb dX10_feed_103 ?_
    refine m_callV (n := 1) (As := [.int (d >>> (8 &&& 31))]) (rest := []) (st1 := []) S hG hL (c_X10_byteCame hlv (d >>> (8 &&& 31)) (fdS s 14) (fdR s r (fdBy a b c d e) 14) ((fdS_b h0 h1 c15 (k := 14) (by decide)).1) ((fdS_b h0 h1 c15 (k := 14) (by decide)).2)) gX10_feed_X10_byteCame rfl (by decide +kernel) ⟨Nat.le_of_ble_eq_true rfl, Nat.le_of_ble_eq_true rfl⟩ rfl hl.1 rfl (Nat.le_of_ble_eq_true rfl) dX10_feed_104 ⟨Nat.zero_le _, Nat.zero_le _⟩ (rfl) (fun H locs hG hL => ?_)
    have hG : gW D Hb lv ad (mJ ce0 ad cI cZ (fdS s 15) (fdR s r (fdBy a b c d e) 15)) H := by rw [← fdS_1]; exact hG
    refine lv_iinc (v := 0) (lv' := [(6, .int 0), (0, .ref (ad 0)), (1, .int a), (2, .int b), (3, .int c), (4, .int d), (5, .int e)]) hx hb dX10_feed_107 hl (k := 0) rfl (by rfl) (by decide) rfl (fun ls hl => ?_)
    refine lv_goto (tgt := 93) hx hb dX10_feed_110 (by decide) ?_
    refine lv_iload hx hb dX10_feed_93 (lv_at hl 0 rfl) ?_
    refine lv_if_lt (tgt := 113) hx hb dX10_feed_95 (by decide) (fun c => absurd c (by decide)) (fun _ => ?_)
    refine lv_aload_n hx hb dX10_feed_98 rfl (lv_at hl 1 rfl) ?_
    refine lv_iload hx hb dX10_feed_99 (lv_at hl 5 rfl) ?_
    refine lv_iload hx hb dX10_feed_101 (lv_at hl 0 rfl) ?_
    refine lv_ishr hx hb dX10_feed_103 ?_
    refine m_callV (n := 1) (As := [.int (d >>> (0 &&& 31))]) (rest := []) (st1 := []) S hG hL (c_X10_byteCame hlv (d >>> (0 &&& 31)) (fdS s 15) (fdR s r (fdBy a b c d e) 15) ((fdS_b h0 h1 c15 (k := 15) (by decide)).1) ((fdS_b h0 h1 c15 (k := 15) (by decide)).2)) gX10_feed_X10_byteCame rfl (by decide +kernel) ⟨Nat.le_of_ble_eq_true rfl, Nat.le_of_ble_eq_true rfl⟩ rfl hl.1 rfl (Nat.le_of_ble_eq_true rfl) dX10_feed_104 ⟨Nat.zero_le _, Nat.zero_le _⟩ (rfl) (fun H locs hG hL => ?_)
    have hG : gW D Hb lv ad (mJ ce0 ad cI cZ (fdS s 16) (fdR s r (fdBy a b c d e) 16)) H := by rw [← fdS_1]; exact hG
    refine lv_iinc (v := (-8)) (lv' := [(6, .int (-8)), (0, .ref (ad 0)), (1, .int a), (2, .int b), (3, .int c), (4, .int d), (5, .int e)]) hx hb dX10_feed_107 hl (k := 0) rfl (by rfl) (by decide) rfl (fun ls hl => ?_)
    refine lv_goto (tgt := 93) hx hb dX10_feed_110 (by decide) ?_
    refine lv_iload hx hb dX10_feed_93 (lv_at hl 0 rfl) ?_
    refine lv_if_lt (tgt := 113) hx hb dX10_feed_95 (by decide) (fun _ => ?_) (fun c => absurd c (by decide))
    refine lv_bipush (v := 24) hx hb dX10_feed_113 (by decide) ?_
    refine lv_istore (lv' := [(6, .int 24), (0, .ref (ad 0)), (1, .int a), (2, .int b), (3, .int c), (4, .int d), (5, .int e)]) hx hb dX10_feed_115 hl (by decide) rfl (fun ls hl => ?_)
    refine lv_iload hx hb dX10_feed_117 (lv_at hl 0 rfl) ?_
    refine lv_if_lt (tgt := 137) hx hb dX10_feed_119 (by decide) (fun c => absurd c (by decide)) (fun _ => ?_)
    refine lv_aload_n hx hb dX10_feed_122 rfl (lv_at hl 1 rfl) ?_
    refine lv_iload hx hb dX10_feed_123 (lv_at hl 6 rfl) ?_
    refine lv_iload hx hb dX10_feed_125 (lv_at hl 0 rfl) ?_
    refine lv_ishr hx hb dX10_feed_127 ?_
    refine m_callV (n := 1) (As := [.int (e >>> (24 &&& 31))]) (rest := []) (st1 := []) S hG hL (c_X10_byteCame hlv (e >>> (24 &&& 31)) (fdS s 16) (fdR s r (fdBy a b c d e) 16) ((fdS_b h0 h1 c15 (k := 16) (by decide)).1) ((fdS_b h0 h1 c15 (k := 16) (by decide)).2)) gX10_feed_X10_byteCame rfl (by decide +kernel) ⟨Nat.le_of_ble_eq_true rfl, Nat.le_of_ble_eq_true rfl⟩ rfl hl.1 rfl (Nat.le_of_ble_eq_true rfl) dX10_feed_128 ⟨Nat.zero_le _, Nat.zero_le _⟩ (rfl) (fun H locs hG hL => ?_)
    have hG : gW D Hb lv ad (mJ ce0 ad cI cZ (fdS s 17) (fdR s r (fdBy a b c d e) 17)) H := by rw [← fdS_1]; exact hG
    refine lv_iinc (v := 16) (lv' := [(6, .int 16), (0, .ref (ad 0)), (1, .int a), (2, .int b), (3, .int c), (4, .int d), (5, .int e)]) hx hb dX10_feed_131 hl (k := 0) rfl (by rfl) (by decide) rfl (fun ls hl => ?_)
    refine lv_goto (tgt := 117) hx hb dX10_feed_134 (by decide) ?_
    refine lv_iload hx hb dX10_feed_117 (lv_at hl 0 rfl) ?_
    refine lv_if_lt (tgt := 137) hx hb dX10_feed_119 (by decide) (fun c => absurd c (by decide)) (fun _ => ?_)
    refine lv_aload_n hx hb dX10_feed_122 rfl (lv_at hl 1 rfl) ?_
    refine lv_iload hx hb dX10_feed_123 (lv_at hl 6 rfl) ?_
    refine lv_iload hx hb dX10_feed_125 (lv_at hl 0 rfl) ?_
    refine lv_ishr hx hb dX10_feed_127 ?_
    refine m_callV (n := 1) (As := [.int (e >>> (16 &&& 31))]) (rest := []) (st1 := []) S hG hL (c_X10_byteCame hlv (e >>> (16 &&& 31)) (fdS s 17) (fdR s r (fdBy a b c d e) 17) ((fdS_b h0 h1 c15 (k := 17) (by decide)).1) ((fdS_b h0 h1 c15 (k := 17) (by decide)).2)) gX10_feed_X10_byteCame rfl (by decide +kernel) ⟨Nat.le_of_ble_eq_true rfl, Nat.le_of_ble_eq_true rfl⟩ rfl hl.1 rfl (Nat.le_of_ble_eq_true rfl) dX10_feed_128 ⟨Nat.zero_le _, Nat.zero_le _⟩ (rfl) (fun H locs hG hL => ?_)
    have hG : gW D Hb lv ad (mJ ce0 ad cI cZ (fdS s 18) (fdR s r (fdBy a b c d e) 18)) H := by rw [← fdS_1]; exact hG
    refine lv_iinc (v := 8) (lv' := [(6, .int 8), (0, .ref (ad 0)), (1, .int a), (2, .int b), (3, .int c), (4, .int d), (5, .int e)]) hx hb dX10_feed_131 hl (k := 0) rfl (by rfl) (by decide) rfl (fun ls hl => ?_)
    refine lv_goto (tgt := 117) hx hb dX10_feed_134 (by decide) ?_
    refine lv_iload hx hb dX10_feed_117 (lv_at hl 0 rfl) ?_
    refine lv_if_lt (tgt := 137) hx hb dX10_feed_119 (by decide) (fun c => absurd c (by decide)) (fun _ => ?_)
    refine lv_aload_n hx hb dX10_feed_122 rfl (lv_at hl 1 rfl) ?_
    refine lv_iload hx hb dX10_feed_123 (lv_at hl 6 rfl) ?_
    refine lv_iload hx hb dX10_feed_125 (lv_at hl 0 rfl) ?_
    refine lv_ishr hx hb dX10_feed_127 ?_
    refine m_callV (n := 1) (As := [.int (e >>> (8 &&& 31))]) (rest := []) (st1 := []) S hG hL (c_X10_byteCame hlv (e >>> (8 &&& 31)) (fdS s 18) (fdR s r (fdBy a b c d e) 18) ((fdS_b h0 h1 c15 (k := 18) (by decide)).1) ((fdS_b h0 h1 c15 (k := 18) (by decide)).2)) gX10_feed_X10_byteCame rfl (by decide +kernel) ⟨Nat.le_of_ble_eq_true rfl, Nat.le_of_ble_eq_true rfl⟩ rfl hl.1 rfl (Nat.le_of_ble_eq_true rfl) dX10_feed_128 ⟨Nat.zero_le _, Nat.zero_le _⟩ (rfl) (fun H locs hG hL => ?_)
    have hG : gW D Hb lv ad (mJ ce0 ad cI cZ (fdS s 19) (fdR s r (fdBy a b c d e) 19)) H := by rw [← fdS_1]; exact hG
    refine lv_iinc (v := 0) (lv' := [(6, .int 0), (0, .ref (ad 0)), (1, .int a), (2, .int b), (3, .int c), (4, .int d), (5, .int e)]) hx hb dX10_feed_131 hl (k := 0) rfl (by rfl) (by decide) rfl (fun ls hl => ?_)
    refine lv_goto (tgt := 117) hx hb dX10_feed_134 (by decide) ?_
    refine lv_iload hx hb dX10_feed_117 (lv_at hl 0 rfl) ?_
    refine lv_if_lt (tgt := 137) hx hb dX10_feed_119 (by decide) (fun c => absurd c (by decide)) (fun _ => ?_)
    refine lv_aload_n hx hb dX10_feed_122 rfl (lv_at hl 1 rfl) ?_
    refine lv_iload hx hb dX10_feed_123 (lv_at hl 6 rfl) ?_
    refine lv_iload hx hb dX10_feed_125 (lv_at hl 0 rfl) ?_
    refine lv_ishr hx hb dX10_feed_127 ?_
    refine m_callV (n := 1) (As := [.int (e >>> (0 &&& 31))]) (rest := []) (st1 := []) S hG hL (c_X10_byteCame hlv (e >>> (0 &&& 31)) (fdS s 19) (fdR s r (fdBy a b c d e) 19) ((fdS_b h0 h1 c15 (k := 19) (by decide)).1) ((fdS_b h0 h1 c15 (k := 19) (by decide)).2)) gX10_feed_X10_byteCame rfl (by decide +kernel) ⟨Nat.le_of_ble_eq_true rfl, Nat.le_of_ble_eq_true rfl⟩ rfl hl.1 rfl (Nat.le_of_ble_eq_true rfl) dX10_feed_128 ⟨Nat.zero_le _, Nat.zero_le _⟩ (rfl) (fun H locs hG hL => ?_)
    have hG : gW D Hb lv ad (mJ ce0 ad cI cZ (fdS s 20) (fdR s r (fdBy a b c d e) 20)) H := by rw [← fdS_1]; exact hG
    refine lv_iinc (v := (-8)) (lv' := [(6, .int (-8)), (0, .ref (ad 0)), (1, .int a), (2, .int b), (3, .int c), (4, .int d), (5, .int e)]) hx hb dX10_feed_131 hl (k := 0) rfl (by rfl) (by decide) rfl (fun ls hl => ?_)
    refine lv_goto (tgt := 117) hx hb dX10_feed_134 (by decide) ?_
    refine lv_iload hx hb dX10_feed_117 (lv_at hl 0 rfl) ?_
    refine lv_if_lt (tgt := 137) hx hb dX10_feed_119 (by decide) (fun _ => ?_) (fun c => absurd c (by decide))
    refine lv_aload_n hx hb dX10_feed_137 rfl (lv_at hl 1 rfl) ?_
    refine m_gi (v := (fdS s 20) 61) S hG 61 rfl (hts (.fieldLink RX10 195 "SwarmLineModel" "taped" "I") (by decide +kernel)) dX10_feed_138 rfl ?_
    exact m_iret S hr hlocks hG hL dX10_feed_141 (by simp only [vFd, sFd, rFd, eq_true c15, il1, il2, il3, ↓reduceIte]) (by simp only [vFd, sFd, rFd, eq_true c15, il1, il2, il3, ↓reduceIte]) (by simp only [vFd, sFd, rFd, eq_true c15, il1, il2, il3, ↓reduceIte])
  ·
    refine lv_iconst (v := (-1)) hx hb dX10_feed_18 (by decide) ?_
    exact m_iret S hr hlocks hG hL dX10_feed_19 (by simp only [vFd, sFd, rFd, eq_false c15, il1, il2, il3, ↓reduceIte]) (by simp only [vFd, sFd, rFd, eq_false c15, il1, il2, il3, ↓reduceIte]) (by simp only [vFd, sFd, rFd, eq_false c15, il1, il2, il3, ↓reduceIte])
set_option maxHeartbeats 4000000 in
set_option maxRecDepth 100000 in
theorem c_X10_agrees {l : Launch} {D : va_G} {cI cZ cB cO cR cJ : ClassId} {Hb : Heap} {lv : Nat → Prop} {ad : Nat → Nat} {ce0 : Nat → va_E} (hlv : lM lv) (h : Int32) (sw : Int32) (s : Nat → Int32) (r : Nat → Nat → Int32) (hh : vp_in h 20) (hw : vp_in sw 60) (hc : vp_in (r 25 (Int32.toNatClampNeg sw)) 60) : mMet l D cI cZ cB cO cR cJ Hb lv ad ce0 yX10_agrees wsX10_agrees 1 25 [.ref (ad 0), .int h, .int sw] s r (some (.int (agP sw r h))) s r := by
  refine Met.ofW (cc := cX10_agrees) (maxL := 4) (ret := (some .boolean)) (by decide) rfl ?_
  intro p0 e0 s0 m0 args below meth c0 s₁ B hml hv
  obtain ⟨rfl, hG, hK⟩ := hv
  have hx := B.exec
  have hb := B.bytes
  have hr := B.returns
  have hts := atoms_spec (ws := wsX10_agrees) B.pre
  have hown : s0.vm.findClass RX10 = some m0.cls := findClass_of_methodNamed B.named
  have hlocks := B.notSynchronized
  have S : mX p0 m0 c0 cX10_agrees 4 s0 _ wsX10_agrees D cI cZ cB cO cR cJ lv := ⟨⟨hx, hb, hml, hown, hts⟩, hK, fun w h => List.mem_cons_of_mem _ (List.mem_append_right _ h), hlv⟩
  have hL : gL Hb [] := gL.nil
  have hl := lv_entry ([.ref (ad 0), .int h, .int sw]) (n := 4) (Nat.le_of_ble_eq_true rfl)
  rw [lg_entry_eq]
  generalize (lg_sl ([.ref (ad 0), .int h, .int sw]) ++ List.replicate (4 - (lg_sl ([.ref (ad 0), .int h, .int sw])).length) Slot.unset).toArray = ls at hl ⊢
  have hl : lv_has ls 4 [(0, .ref (ad 0)), (1, .int h), (2, .int sw)] := hl
  refine lv_aload_n hx hb dX10_agrees_0 rfl (lv_at hl 0 rfl) ?_
  refine m_ga S hG 47 rfl (hts (.fieldLink RX10 131 "SwarmLineModel" "caseMark" "[I") (by decide +kernel)) dX10_agrees_1 ?_
  refine lv_aload_n hx hb dX10_agrees_4 rfl (lv_at hl 0 rfl) ?_
  refine m_ga S hG 25 rfl (hts (.fieldLink RX10 73 "SwarmLineModel" "swarmCase" "[I") (by decide +kernel)) dX10_agrees_5 ?_
  refine lv_iload_n hx hb dX10_agrees_8 rfl (lv_at hl 2 rfl) ?_
  refine m_ld (v := r 25 (Int32.toNatClampNeg sw)) S hG 25 rfl (show vp_in sw 60 from hw) dX10_agrees_9 (rfl) ?_
  refine m_ld (v := r 47 (Int32.toNatClampNeg (r 25 (Int32.toNatClampNeg sw)))) S hG 47 rfl (show vp_in (r 25 (Int32.toNatClampNeg sw)) 60 from hc) dX10_agrees_10 (rfl) ?_
  refine lv_istore_n (lv' := [(3, .int (r 47 (Int32.toNatClampNeg (r 25 (Int32.toNatClampNeg sw))))), (0, .ref (ad 0)), (1, .int h), (2, .int sw)]) hx hb dX10_agrees_11 rfl hl (by decide) rfl (fun ls hl => ?_)
  refine lv_aload_n hx hb dX10_agrees_12 rfl (lv_at hl 1 rfl) ?_
  refine m_ga S hG 13 rfl (hts (.fieldLink RX10 40 "SwarmLineModel" "hiveLast" "[I") (by decide +kernel)) dX10_agrees_13 ?_
  refine lv_iload_n hx hb dX10_agrees_16 rfl (lv_at hl 2 rfl) ?_
  refine m_ld (v := r 13 (Int32.toNatClampNeg h)) S hG 13 rfl (show vp_in h 20 from hh) dX10_agrees_17 (rfl) ?_
  refine lv_iconst (v := (-1)) hx hb dX10_agrees_18 (by decide) ?_
  refine lv_icmp_eq (tgt := 55) hx hb dX10_agrees_19 (by decide) (fun c19 => ?_) (fun c19 => ?_)
  ·
    refine lv_iconst (v := 0) hx hb dX10_agrees_55 (by decide) ?_
    exact m_zret S hr hlocks (by decide) hG hL dX10_agrees_56 (by simp only [agP, eq_true c19, il1, il2, il3, ↓reduceIte]) (by rfl) (by rfl)
  ·
    refine lv_aload_n hx hb dX10_agrees_22 rfl (lv_at hl 1 rfl) ?_
    refine m_ga S hG 13 rfl (hts (.fieldLink RX10 40 "SwarmLineModel" "hiveLast" "[I") (by decide +kernel)) dX10_agrees_23 ?_
    refine lv_iload_n hx hb dX10_agrees_26 rfl (lv_at hl 2 rfl) ?_
    refine m_ld (v := r 13 (Int32.toNatClampNeg h)) S hG 13 rfl (show vp_in h 20 from hh) dX10_agrees_27 (rfl) ?_
    refine lv_aload_n hx hb dX10_agrees_28 rfl (lv_at hl 1 rfl) ?_
    refine m_ga S hG 24 rfl (hts (.fieldLink RX10 70 "SwarmLineModel" "swarmHour" "[I") (by decide +kernel)) dX10_agrees_29 ?_
    refine lv_iload_n hx hb dX10_agrees_32 rfl (lv_at hl 3 rfl) ?_
    refine m_ld (v := r 24 (Int32.toNatClampNeg sw)) S hG 24 rfl (show vp_in sw 60 from hw) dX10_agrees_33 (rfl) ?_
    refine lv_icmp_gt (tgt := 55) hx hb dX10_agrees_34 (by decide) (fun c34 => ?_) (fun c34 => ?_)
    ·
      refine lv_iconst (v := 0) hx hb dX10_agrees_55 (by decide) ?_
      exact m_zret S hr hlocks (by decide) hG hL dX10_agrees_56 (by simp only [agP, eq_false c19, eq_true c34, il1, il2, il3, ↓reduceIte]) (by rfl) (by rfl)
    ·
      refine lv_aload_n hx hb dX10_agrees_37 rfl (lv_at hl 1 rfl) ?_
      refine m_ga S hG 24 rfl (hts (.fieldLink RX10 70 "SwarmLineModel" "swarmHour" "[I") (by decide +kernel)) dX10_agrees_38 ?_
      refine lv_iload_n hx hb dX10_agrees_41 rfl (lv_at hl 3 rfl) ?_
      refine m_ld (v := r 24 (Int32.toNatClampNeg sw)) S hG 24 rfl (show vp_in sw 60 from hw) dX10_agrees_42 (rfl) ?_
      refine lv_aload_n hx hb dX10_agrees_43 rfl (lv_at hl 1 rfl) ?_
      refine m_ga S hG 13 rfl (hts (.fieldLink RX10 40 "SwarmLineModel" "hiveLast" "[I") (by decide +kernel)) dX10_agrees_44 ?_
      refine lv_iload_n hx hb dX10_agrees_47 rfl (lv_at hl 2 rfl) ?_
      refine m_ld (v := r 13 (Int32.toNatClampNeg h)) S hG 13 rfl (show vp_in h 20 from hh) dX10_agrees_48 (rfl) ?_
      refine lv_isub hx hb dX10_agrees_49 ?_
      refine lv_bipush (v := 60) hx hb dX10_agrees_50 (by decide) ?_
      refine lv_icmp_le (tgt := 57) hx hb dX10_agrees_52 (by decide) (fun c52 => ?_) (fun c52 => ?_)
      ·
        refine lv_aload_n hx hb dX10_agrees_57 rfl (lv_at hl 1 rfl) ?_
        refine m_ga S hG 7 rfl (hts (.fieldLink RX10 22 "SwarmLineModel" "hiveX" "[I") (by decide +kernel)) dX10_agrees_58 ?_
        refine lv_iload_n hx hb dX10_agrees_61 rfl (lv_at hl 2 rfl) ?_
        refine m_ld (v := r 7 (Int32.toNatClampNeg h)) S hG 7 rfl (show vp_in h 20 from hh) dX10_agrees_62 (rfl) ?_
        refine lv_aload_n hx hb dX10_agrees_63 rfl (lv_at hl 1 rfl) ?_
        refine m_ga S hG 8 rfl (hts (.fieldLink RX10 25 "SwarmLineModel" "hiveY" "[I") (by decide +kernel)) dX10_agrees_64 ?_
        refine lv_iload_n hx hb dX10_agrees_67 rfl (lv_at hl 2 rfl) ?_
        refine m_ld (v := r 8 (Int32.toNatClampNeg h)) S hG 8 rfl (show vp_in h 20 from hh) dX10_agrees_68 (rfl) ?_
        refine lv_aload_n hx hb dX10_agrees_69 rfl (lv_at hl 1 rfl) ?_
        refine m_ga S hG 18 rfl (hts (.fieldLink RX10 52 "SwarmLineModel" "swarmX" "[I") (by decide +kernel)) dX10_agrees_70 ?_
        refine lv_iload_n hx hb dX10_agrees_73 rfl (lv_at hl 3 rfl) ?_
        refine m_ld (v := r 18 (Int32.toNatClampNeg sw)) S hG 18 rfl (show vp_in sw 60 from hw) dX10_agrees_74 (rfl) ?_
        refine lv_aload_n hx hb dX10_agrees_75 rfl (lv_at hl 1 rfl) ?_
        refine m_ga S hG 19 rfl (hts (.fieldLink RX10 55 "SwarmLineModel" "swarmY" "[I") (by decide +kernel)) dX10_agrees_76 ?_
        refine lv_iload_n hx hb dX10_agrees_79 rfl (lv_at hl 3 rfl) ?_
        refine m_ld (v := r 19 (Int32.toNatClampNeg sw)) S hG 19 rfl (show vp_in sw 60 from hw) dX10_agrees_80 (rfl) ?_
        refine m_callP (n := 4) (As := [.int (r 7 (Int32.toNatClampNeg h)), .int (r 8 (Int32.toNatClampNeg h)), .int (r 18 (Int32.toNatClampNeg sw)), .int (r 19 (Int32.toNatClampNeg sw))]) (rest := []) (st1 := .int (fSt (r 7 (Int32.toNatClampNeg h)) (r 8 (Int32.toNatClampNeg h)) (r 18 (Int32.toNatClampNeg sw)) (r 19 (Int32.toNatClampNeg sw))) :: []) S.1 (c_X10_steps (r 7 (Int32.toNatClampNeg h)) (r 8 (Int32.toNatClampNeg h)) (r 18 (Int32.toNatClampNeg sw)) (r 19 (Int32.toNatClampNeg sw))) gX10_agrees_X10_steps rfl (by decide +kernel) ⟨Nat.le_of_ble_eq_true rfl, Nat.le_of_ble_eq_true rfl⟩ rfl hl.1 rfl (Nat.le_of_ble_eq_true rfl) dX10_agrees_81 ⟨Nat.zero_le _, Nat.zero_le _⟩ rfl ?_
        refine lv_iconst (v := 3) hx hb dX10_agrees_84 (by decide) ?_
        refine lv_icmp_gt (tgt := 106) hx hb dX10_agrees_85 (by decide) (fun c85 => ?_) (fun c85 => ?_)
        ·
          refine lv_iconst (v := 0) hx hb dX10_agrees_106 (by decide) ?_
          exact m_zret S hr hlocks (by decide) hG hL dX10_agrees_107 (by simp only [agP, eq_false c19, eq_false c34, eq_true c52, eq_true c85, il1, il2, il3, ↓reduceIte]) (by rfl) (by rfl)
        ·
          refine lv_iload_n hx hb dX10_agrees_88 rfl (lv_at hl 0 rfl) ?_
          refine lv_if_eq (tgt := 102) hx hb dX10_agrees_89 (by decide) (fun c89 => ?_) (fun c89 => ?_)
          ·
            refine lv_iconst (v := 1) hx hb dX10_agrees_102 (by decide) ?_
            refine lv_goto (tgt := 107) hx hb dX10_agrees_103 (by decide) ?_
            exact m_zret S hr hlocks (by decide) hG hL dX10_agrees_107 (by simp only [agP, eq_false c19, eq_false c34, eq_true c52, eq_false c85, eq_true c89, il1, il2, il3, ↓reduceIte]) (by rfl) (by rfl)
          ·
            refine lv_iload_n hx hb dX10_agrees_92 rfl (lv_at hl 0 rfl) ?_
            refine lv_aload_n hx hb dX10_agrees_93 rfl (lv_at hl 1 rfl) ?_
            refine m_ga S hG 11 rfl (hts (.fieldLink RX10 34 "SwarmLineModel" "hiveMark" "[I") (by decide +kernel)) dX10_agrees_94 ?_
            refine lv_iload_n hx hb dX10_agrees_97 rfl (lv_at hl 2 rfl) ?_
            refine m_ld (v := r 11 (Int32.toNatClampNeg h)) S hG 11 rfl (show vp_in h 20 from hh) dX10_agrees_98 (rfl) ?_
            refine lv_icmp_ne (tgt := 106) hx hb dX10_agrees_99 (by decide) (fun c99 => ?_) (fun c99 => ?_)
            ·
              refine lv_iconst (v := 0) hx hb dX10_agrees_106 (by decide) ?_
              exact m_zret S hr hlocks (by decide) hG hL dX10_agrees_107 (by simp only [agP, eq_false c19, eq_false c34, eq_true c52, eq_false c85, eq_false c89, eq_false c99, il1, il2, il3, ↓reduceIte]) (by rfl) (by rfl)
            ·
              refine lv_iconst (v := 1) hx hb dX10_agrees_102 (by decide) ?_
              refine lv_goto (tgt := 107) hx hb dX10_agrees_103 (by decide) ?_
              exact m_zret S hr hlocks (by decide) hG hL dX10_agrees_107 (by simp only [agP, eq_false c19, eq_false c34, eq_true c52, eq_false c85, eq_false c89, eq_true c99, il1, il2, il3, ↓reduceIte]) (by rfl) (by rfl)
      ·
        refine lv_iconst (v := 0) hx hb dX10_agrees_55 (by decide) ?_
        exact m_zret S hr hlocks (by decide) hG hL dX10_agrees_56 (by simp only [agP, eq_false c19, eq_false c34, eq_false c52, il1, il2, il3, ↓reduceIte]) (by rfl) (by rfl)
set_option maxHeartbeats 4000000 in
set_option maxRecDepth 100000 in
theorem c_X10_origin {l : Launch} {D : va_G} {cI cZ cB cO cR cJ : ClassId} {Hb : Heap} {lv : Nat → Prop} {ad : Nat → Nat} {ce0 : Nat → va_E} (hlv : lM lv) (sw : Int32) (s : Nat → Int32) (r : Nat → Nat → Int32) (h0 : 0 ≤ (s 6).toInt) (h1 : (s 6).toInt ≤ 20) (h2 : (s 14).toInt ≤ 60) (hc : ¬ fIs (s 14) sw = 0 → r 15 (Int32.toNatClampNeg sw) = 1 → vp_in (r 25 (Int32.toNatClampNeg sw)) 60) : mMet l D cI cZ cB cO cR cJ Hb lv ad ce0 yX10_origin wsX10_origin 2 48 [.ref (ad 0), .int sw] s r (some (.int (vOg sw s r))) (upd s 0 (kOg sw s r)) r := by
  refine Met.ofW (cc := cX10_origin) (maxL := 5) (ret := (some .int)) (by decide) rfl ?_
  intro p0 e0 s0 m0 args below meth c0 s₁ B hml hv
  obtain ⟨rfl, hG, hK⟩ := hv
  have hx := B.exec
  have hb := B.bytes
  have hr := B.returns
  have hts := atoms_spec (ws := wsX10_origin) B.pre
  have hown : s0.vm.findClass RX10 = some m0.cls := findClass_of_methodNamed B.named
  have hlocks := B.notSynchronized
  have S : mX p0 m0 c0 cX10_origin 5 s0 _ wsX10_origin D cI cZ cB cO cR cJ lv := ⟨⟨hx, hb, hml, hown, hts⟩, hK, fun w h => List.mem_cons_of_mem _ (List.mem_append_right _ h), hlv⟩
  have hL : gL Hb [] := gL.nil
  have hl := lv_entry ([.ref (ad 0), .int sw]) (n := 5) (Nat.le_of_ble_eq_true rfl)
  rw [lg_entry_eq]
  generalize (lg_sl ([.ref (ad 0), .int sw]) ++ List.replicate (5 - (lg_sl ([.ref (ad 0), .int sw])).length) Slot.unset).toArray = ls at hl ⊢
  have hl : lv_has ls 5 [(0, .ref (ad 0)), (1, .int sw)] := hl
  refine lv_aload_n hx hb dX10_origin_0 rfl (lv_at hl 0 rfl) ?_
  refine lv_aload_n hx hb dX10_origin_1 rfl (lv_at hl 0 rfl) ?_
  refine lv_iload_n hx hb dX10_origin_2 rfl (lv_at hl 1 rfl) ?_
  refine m_callV (n := 1) (As := [.int sw]) (rest := [.ref (ad 0)]) (st1 := .int (fIs (s 14) sw) :: [.ref (ad 0)]) S hG hL (c_X10_isSwarm hlv sw s r ) gX10_origin_X10_isSwarm rfl (by decide +kernel) ⟨Nat.le_of_ble_eq_true rfl, Nat.le_of_ble_eq_true rfl⟩ rfl hl.1 rfl (Nat.le_of_ble_eq_true rfl) dX10_origin_3 ⟨Nat.zero_le _, Nat.zero_le _⟩ (rfl) (fun H locs hG hL => ?_)
  refine lv_if_ne (tgt := 13) hx hb dX10_origin_6 (by decide) (fun c6 => ?_) (fun c6 => ?_)
  ·
    refine lv_aload_n hx hb dX10_origin_13 rfl (lv_at hl 0 rfl) ?_
    refine m_ga S hG 15 rfl (hts (.fieldLink RX10 43 "SwarmLineModel" "swarmState" "[I") (by decide +kernel)) dX10_origin_14 ?_
    refine lv_iload_n hx hb dX10_origin_17 rfl (lv_at hl 1 rfl) ?_
    refine m_ld (v := r 15 (Int32.toNatClampNeg sw)) S hG 15 rfl (show vp_in sw 60 from fIs_in c6 h2) dX10_origin_18 (rfl) ?_
    refine lv_iconst (v := 1) hx hb dX10_origin_19 (by decide) ?_
    refine lv_icmp_eq (tgt := 27) hx hb dX10_origin_20 (by decide) (fun c20 => ?_) (fun c20 => ?_)
    ·
      refine lv_iconst (v := 0) hx hb dX10_origin_27 (by decide) ?_
      refine m_pi S hG hL 0 rfl (hts (.fieldLink RX10 180 "SwarmLineModel" "thrown" "I") (by decide +kernel)) dX10_origin_28 (fun H locs hG hL => ?_)
      refine lv_aload_n hx hb dX10_origin_31 rfl (lv_at hl 0 rfl) ?_
      refine m_gi (v := 0) S hG 0 rfl (hts (.fieldLink RX10 180 "SwarmLineModel" "thrown" "I") (by decide +kernel)) dX10_origin_32 rfl ?_
      refine lv_if_le (tgt := 40) hx hb dX10_origin_35 (by decide) (fun _ => ?_) (fun c => absurd c (by decide))
      refine lv_iconst (v := (-1)) hx hb dX10_origin_40 (by decide) ?_
      refine lv_istore_n (lv' := [(2, .int (-1)), (0, .ref (ad 0)), (1, .int sw)]) hx hb dX10_origin_41 rfl hl (by decide) rfl (fun ls hl => ?_)
      refine lv_iconst (v := 0) hx hb dX10_origin_42 (by decide) ?_
      refine lv_istore_n (lv' := [(3, .int 0), (2, .int (-1)), (0, .ref (ad 0)), (1, .int sw)]) hx hb dX10_origin_43 rfl hl (by decide) rfl (fun ls hl => ?_)
      refine lv_iconst (v := 0) hx hb dX10_origin_44 (by decide) ?_
      refine lv_istore (lv' := [(4, .int 0), (3, .int 0), (2, .int (-1)), (0, .ref (ad 0)), (1, .int sw)]) hx hb dX10_origin_45 hl (by decide) rfl (fun ls hl => ?_)
      have LP : ∀ (n : Nat) (i : Nat) (x : Int32) (a : Int32) (b : Int32) (ex : x = nI i) (hi : i ≤ (s 6).toNatClampNeg) (hn : (s 6).toNatClampNeg + 1 ≤ i + n) (ha : a = ogF sw r i) (hq : b = ogM sw r i), ∀ (H : Heap) (locs : List Loc), gW D Hb lv ad (mJ ce0 ad cI cZ (upd s 0 0) r) H → gL Hb locs → ∀ (ls : Array Slot), lv_has ls 5 [(0, .ref (ad 0)), (1, .int sw), (2, .int a), (3, .int b), (4, .int x)] → W p0 l e0 (headSpec wsX10_origin { frames := 2, cells := 0, slots := 0, locals := 48 }).room s0 m0 ([.ref (ad 0), .int sw] : List Value).toArray below meth c0 H locs 0 0 (MQ below (gQ D Hb lv ad (some (.int (vOg sw s r))) (mJ ce0 ad cI cZ (upd s 0 (kOg sw s r)) r)) ([.ref (ad 0), .int sw] : List Value).toArray s0 0 0 (gA Hb)) (F0 m0 47 ls []) := by
        intro n
        induction n with
        | zero => intro i x a b ex hi hn ha hq; exact absurd hn (by omega)
        | succ n ih =>
          intro i x a b ex hi hn ha hq H locs hG hL ls hl
          have hbd : (s 6).toNatClampNeg ≤ 20 := t_ixl h0 h1; have hii : Int32.toNatClampNeg x = i := by { rw [ex]; exact ix_nI (by omega) }
          refine lv_iload hx hb dX10_origin_47 (lv_at hl 4 rfl) ?_
          refine lv_aload_n hx hb dX10_origin_49 rfl (lv_at hl 0 rfl) ?_
          refine m_gi (v := s 6) S hG 6 rfl (hts (.fieldLink RX10 183 "SwarmLineModel" "hives" "I") (by decide +kernel)) dX10_origin_50 rfl ?_
          refine lv_icmp_ge (tgt := 81) hx hb dX10_origin_53 (by decide) (fun c53 => ?_) (fun c53 => ?_)
          ·
            have hEq := cl_ge h0 hi (ex ▸ c53)
            refine lv_iload_n hx hb dX10_origin_81 rfl (lv_at hl 3 rfl) ?_
            refine lv_iconst (v := 1) hx hb dX10_origin_82 (by decide) ?_
            refine lv_icmp_ne (tgt := 90) hx hb dX10_origin_83 (by decide) (fun c83 => ?_) (fun c83 => ?_)
            ·
              refine lv_iconst (v := (-1)) hx hb dX10_origin_90 (by decide) ?_
              exact m_iret S hr hlocks hG hL dX10_origin_91 (by rw [hEq] at ha hq; simp only [vOg, ← ha, ← hq, eq_false c6, eq_true c20, eq_true c53, eq_false c83, ↓reduceIte]) (by simp only [kOg, eq_false c6, eq_true c20, eq_true c53, eq_false c83, ↓reduceIte]) (by rfl)
            ·
              refine lv_iload_n hx hb dX10_origin_86 rfl (lv_at hl 2 rfl) ?_
              refine lv_goto (tgt := 91) hx hb dX10_origin_87 (by decide) ?_
              exact m_iret S hr hlocks hG hL dX10_origin_91 (by rw [hEq] at ha hq; simp only [vOg, ← ha, ← hq, eq_false c6, eq_true c20, eq_true c53, eq_true c83, ↓reduceIte]) (by simp only [kOg, eq_false c6, eq_true c20, eq_true c53, eq_true c83, ↓reduceIte]) (by rfl)
          ·
            have hlt := cl_lt h0 hi (ex ▸ c53)
            refine lv_aload_n hx hb dX10_origin_56 rfl (lv_at hl 0 rfl) ?_
            refine lv_iload hx hb dX10_origin_57 (lv_at hl 4 rfl) ?_
            refine lv_iload_n hx hb dX10_origin_59 rfl (lv_at hl 1 rfl) ?_
            refine m_callV (n := 2) (As := [.int x, .int sw]) (rest := []) (st1 := .int (agP sw r x) :: []) S hG hL (c_X10_agrees hlv x sw (upd s 0 0) r (by rw [ex]; exact vp_in_i (by omega) (by omega)) (fIs_in c6 h2) (hc c6 c20)) gX10_origin_X10_agrees rfl (by decide +kernel) ⟨Nat.le_of_ble_eq_true rfl, Nat.le_of_ble_eq_true rfl⟩ rfl hl.1 rfl (Nat.le_of_ble_eq_true rfl) dX10_origin_60 ⟨Nat.zero_le _, Nat.zero_le _⟩ (rfl) (fun H locs hG hL => ?_)
            refine lv_if_ne (tgt := 69) hx hb dX10_origin_63 (by decide) (fun c63 => ?_) (fun c63 => ?_)
            ·
              refine lv_iload hx hb dX10_origin_69 (lv_at hl 4 rfl) ?_
              refine lv_istore_n (lv' := [(2, .int x), (0, .ref (ad 0)), (1, .int sw), (3, .int b), (4, .int x)]) hx hb dX10_origin_71 rfl hl (by decide) rfl (fun ls hl => ?_)
              refine lv_iinc (v := b + 1) (lv' := [(3, .int (b + 1)), (2, .int x), (0, .ref (ad 0)), (1, .int sw), (4, .int x)]) hx hb dX10_origin_72 hl (k := 3) rfl (by rfl) (by decide) rfl (fun ls hl => ?_)
              refine lv_iinc (v := x + 1) (lv' := [(4, .int (x + 1)), (3, .int (b + 1)), (2, .int x), (0, .ref (ad 0)), (1, .int sw)]) hx hb dX10_origin_75 hl (k := 4) rfl (by rfl) (by decide) rfl (fun ls hl => ?_)
              refine lv_goto (tgt := 47) hx hb dX10_origin_78 (by decide) ?_
              exact ih  (i + 1) (x + 1) x (b + 1) (by rw [ex]; exact nI_1 i) (hlt) (by omega) (by simp only [ogF, ← ex, eq_false c6, eq_true c20, eq_false c53, eq_false c63, ↓reduceIte]; try exact ha) (by simp only [ogM, ← ex, eq_false c6, eq_true c20, eq_false c53, eq_false c63, ↓reduceIte]; rw [hq]) _ _ hG hL _ (lv_sub hl [3, 4, 2, 1, 0] rfl)
            ·
              refine lv_goto (tgt := 75) hx hb dX10_origin_66 (by decide) ?_
              refine lv_iinc (v := x + 1) (lv' := [(4, .int (x + 1)), (0, .ref (ad 0)), (1, .int sw), (2, .int a), (3, .int b)]) hx hb dX10_origin_75 hl (k := 4) rfl (by rfl) (by decide) rfl (fun ls hl => ?_)
              refine lv_goto (tgt := 47) hx hb dX10_origin_78 (by decide) ?_
              exact ih  (i + 1) (x + 1) a b (by rw [ex]; exact nI_1 i) (hlt) (by omega) (by simp only [ogF, ← ex, eq_false c6, eq_true c20, eq_false c53, eq_true c63, ↓reduceIte]; try exact ha) (by simp only [ogM, ← ex, eq_false c6, eq_true c20, eq_false c53, eq_true c63, ↓reduceIte]; rw [hq]) _ _ hG hL _ (lv_sub hl [1, 2, 3, 4, 0] rfl)
      exact LP ((s 6).toNatClampNeg + 1) 0 0 (-1) 0 (rfl) (Nat.zero_le _) (by omega) (rfl) (rfl) _ _ hG hL _ (lv_sub hl [3, 4, 2, 1, 0] rfl)
    ·
      refine lv_iconst (v := 2) hx hb dX10_origin_23 (by decide) ?_
      refine lv_goto (tgt := 28) hx hb dX10_origin_24 (by decide) ?_
      refine m_pi S hG hL 0 rfl (hts (.fieldLink RX10 180 "SwarmLineModel" "thrown" "I") (by decide +kernel)) dX10_origin_28 (fun H locs hG hL => ?_)
      refine lv_aload_n hx hb dX10_origin_31 rfl (lv_at hl 0 rfl) ?_
      refine m_gi (v := 2) S hG 0 rfl (hts (.fieldLink RX10 180 "SwarmLineModel" "thrown" "I") (by decide +kernel)) dX10_origin_32 rfl ?_
      refine lv_if_le (tgt := 40) hx hb dX10_origin_35 (by decide) (fun c => absurd c (by decide)) (fun _ => ?_)
      refine lv_iconst (v := 0) hx hb dX10_origin_38 (by decide) ?_
      exact m_iret S hr hlocks hG hL dX10_origin_39 (by simp only [vOg, eq_false c6, eq_false c20, ↓reduceIte]) (by simp only [kOg, eq_false c6, eq_false c20, ↓reduceIte]) (by rfl)
  ·
    refine lv_iconst (v := 1) hx hb dX10_origin_9 (by decide) ?_
    refine lv_goto (tgt := 28) hx hb dX10_origin_10 (by decide) ?_
    refine m_pi S hG hL 0 rfl (hts (.fieldLink RX10 180 "SwarmLineModel" "thrown" "I") (by decide +kernel)) dX10_origin_28 (fun H locs hG hL => ?_)
    refine lv_aload_n hx hb dX10_origin_31 rfl (lv_at hl 0 rfl) ?_
    refine m_gi (v := 1) S hG 0 rfl (hts (.fieldLink RX10 180 "SwarmLineModel" "thrown" "I") (by decide +kernel)) dX10_origin_32 rfl ?_
    refine lv_if_le (tgt := 40) hx hb dX10_origin_35 (by decide) (fun c => absurd c (by decide)) (fun _ => ?_)
    refine lv_iconst (v := 0) hx hb dX10_origin_38 (by decide) ?_
    exact m_iret S hr hlocks hG hL dX10_origin_39 (by simp only [vOg, eq_true c6, ↓reduceIte]) (by simp only [kOg, eq_true c6, ↓reduceIte]) (by rfl)
set_option maxHeartbeats 4000000 in
set_option maxRecDepth 100000 in
theorem c_X10_count {l : Launch} {D : va_G} {cI cZ cB cO cR cJ : ClassId} {Hb : Heap} {lv : Nat → Prop} {ad : Nat → Nat} {ce0 : Nat → va_E} (hlv : lM lv) (w : Int32) (s : Nat → Int32) (r : Nat → Nat → Int32) (h0 : 0 ≤ (s 39).toInt) (h1 : (s 39).toInt ≤ 60) (h2 : 0 ≤ (s 6).toInt) (h3 : (s 6).toInt ≤ 20) (h4 : 0 ≤ (s 14).toInt) (h5 : (s 14).toInt ≤ 60) : mMet l D cI cZ cB cO cR cJ Hb lv ad ce0 yX10_count wsX10_count 1 23 [.ref (ad 0), .int w] s r (some (.int (vCn w s r))) (upd s 0 0) r := by
  refine Met.ofW (cc := cX10_count) (maxL := 5) (ret := (some .int)) (by decide) rfl ?_
  intro p0 e0 s0 m0 args below meth c0 s₁ B hml hv
  obtain ⟨rfl, hG, hK⟩ := hv
  have hx := B.exec
  have hb := B.bytes
  have hr := B.returns
  have hts := atoms_spec (ws := wsX10_count) B.pre
  have hown : s0.vm.findClass RX10 = some m0.cls := findClass_of_methodNamed B.named
  have hlocks := B.notSynchronized
  have S : mX p0 m0 c0 cX10_count 5 s0 _ wsX10_count D cI cZ cB cO cR cJ lv := ⟨⟨hx, hb, hml, hown, hts⟩, hK, fun w h => List.mem_cons_of_mem _ (List.mem_append_right _ h), hlv⟩
  have hL : gL Hb [] := gL.nil
  have hl := lv_entry ([.ref (ad 0), .int w]) (n := 5) (Nat.le_of_ble_eq_true rfl)
  rw [lg_entry_eq]
  generalize (lg_sl ([.ref (ad 0), .int w]) ++ List.replicate (5 - (lg_sl ([.ref (ad 0), .int w])).length) Slot.unset).toArray = ls at hl ⊢
  have hl : lv_has ls 5 [(0, .ref (ad 0)), (1, .int w)] := hl
  refine lv_aload_n hx hb dX10_count_0 rfl (lv_at hl 0 rfl) ?_
  refine lv_iconst (v := 0) hx hb dX10_count_1 (by decide) ?_
  refine m_pi S hG hL 0 rfl (hts (.fieldLink RX10 180 "SwarmLineModel" "thrown" "I") (by decide +kernel)) dX10_count_2 (fun H locs hG hL => ?_)
  refine lv_iconst (v := 0) hx hb dX10_count_5 (by decide) ?_
  refine lv_istore_n (lv' := [(2, .int 0), (0, .ref (ad 0)), (1, .int w)]) hx hb dX10_count_6 rfl hl (by decide) rfl (fun ls hl => ?_)
  refine lv_iconst (v := 0) hx hb dX10_count_7 (by decide) ?_
  refine lv_istore_n (lv' := [(3, .int 0), (2, .int 0), (0, .ref (ad 0)), (1, .int w)]) hx hb dX10_count_8 rfl hl (by decide) rfl (fun ls hl => ?_)
  refine lv_iconst (v := 0) hx hb dX10_count_9 (by decide) ?_
  refine lv_istore (lv' := [(4, .int 0), (3, .int 0), (2, .int 0), (0, .ref (ad 0)), (1, .int w)]) hx hb dX10_count_10 hl (by decide) rfl (fun ls hl => ?_)
  have LP : ∀ (n : Nat) (i : Nat) (x : Int32) (a : Int32) (ex : x = nI i) (hi : i ≤ (s 39).toNatClampNeg) (hn : (s 39).toNatClampNeg + 1 ≤ i + n) (ha : a = opN r i), ∀ (H : Heap) (locs : List Loc), gW D Hb lv ad (mJ ce0 ad cI cZ (upd s 0 0) r) H → gL Hb locs → ∀ (ls : Array Slot), lv_has ls 5 [(0, .ref (ad 0)), (1, .int w), (2, .int a), (3, .int 0), (4, .int x)] → W p0 l e0 (headSpec wsX10_count { frames := 1, cells := 0, slots := 0, locals := 23 }).room s0 m0 ([.ref (ad 0), .int w] : List Value).toArray below meth c0 H locs 0 0 (MQ below (gQ D Hb lv ad (some (.int (vCn w s r))) (mJ ce0 ad cI cZ (upd s 0 0) r)) ([.ref (ad 0), .int w] : List Value).toArray s0 0 0 (gA Hb)) (F0 m0 12 ls []) := by
    intro n
    induction n with
    | zero => intro i x a ex hi hn ha; exact absurd hn (by omega)
    | succ n ih =>
      intro i x a ex hi hn ha H locs hG hL ls hl
      have hbd : (s 39).toNatClampNeg ≤ 60 := t_ixl h0 h1; have hii : Int32.toNatClampNeg x = i := by { rw [ex]; exact ix_nI (by omega) }
      refine lv_iload hx hb dX10_count_12 (lv_at hl 4 rfl) ?_
      refine lv_aload_n hx hb dX10_count_14 rfl (lv_at hl 0 rfl) ?_
      refine m_gi (v := s 39) S hG 39 rfl (hts (.fieldLink RX10 192 "SwarmLineModel" "cases" "I") (by decide +kernel)) dX10_count_15 rfl ?_
      refine lv_icmp_ge (tgt := 45) hx hb dX10_count_18 (by decide) (fun c18 => ?_) (fun c18 => ?_)
      ·
        have hEq := cl_ge h0 hi (ex ▸ c18)
        refine lv_iconst (v := 0) hx hb dX10_count_45 (by decide) ?_
        refine lv_istore (lv' := [(4, .int 0), (0, .ref (ad 0)), (1, .int w), (2, .int a), (3, .int 0)]) hx hb dX10_count_46 hl (by decide) rfl (fun ls hl => ?_)
        have LP2 : ∀ (n2 : Nat) (i2 : Nat) (x2 : Int32) (b : Int32) (ex2 : x2 = nI i2) (hi2 : i2 ≤ (s 6).toNatClampNeg) (hn2 : (s 6).toNatClampNeg + 1 ≤ i2 + n2) (hq : b = hbN r i2), ∀ (H : Heap) (locs : List Loc), gW D Hb lv ad (mJ ce0 ad cI cZ (upd s 0 0) r) H → gL Hb locs → ∀ (ls : Array Slot), lv_has ls 5 [(0, .ref (ad 0)), (1, .int w), (2, .int a), (3, .int b), (4, .int x2)] → W p0 l e0 (headSpec wsX10_count { frames := 1, cells := 0, slots := 0, locals := 23 }).room s0 m0 ([.ref (ad 0), .int w] : List Value).toArray below meth c0 H locs 0 0 (MQ below (gQ D Hb lv ad (some (.int (vCn w s r))) (mJ ce0 ad cI cZ (upd s 0 0) r)) ([.ref (ad 0), .int w] : List Value).toArray s0 0 0 (gA Hb)) (F0 m0 48 ls []) := by
          intro n2
          induction n2 with
          | zero => intro i2 x2 b ex2 hi2 hn2 hq; exact absurd hn2 (by omega)
          | succ n2 ih2 =>
            intro i2 x2 b ex2 hi2 hn2 hq H locs hG hL ls hl
            have hbd2 : (s 6).toNatClampNeg ≤ 20 := t_ixl h2 h3; have hii2 : Int32.toNatClampNeg x2 = i2 := by { rw [ex2]; exact ix_nI (by omega) }
            refine lv_iload hx hb dX10_count_48 (lv_at hl 4 rfl) ?_
            refine lv_aload_n hx hb dX10_count_50 rfl (lv_at hl 0 rfl) ?_
            refine m_gi (v := s 6) S hG 6 rfl (hts (.fieldLink RX10 183 "SwarmLineModel" "hives" "I") (by decide +kernel)) dX10_count_51 rfl ?_
            refine lv_icmp_ge (tgt := 73) hx hb dX10_count_54 (by decide) (fun c54 => ?_) (fun c54 => ?_)
            ·
              have hEq2 := cl_ge h2 hi2 (ex2 ▸ c54)
              refine lv_iconst (v := 0) hx hb dX10_count_73 (by decide) ?_
              refine lv_istore (lv' := [(4, .int 0), (0, .ref (ad 0)), (1, .int w), (2, .int a), (3, .int b)]) hx hb dX10_count_74 hl (by decide) rfl (fun ls hl => ?_)
              have LP3 : ∀ (n3 : Nat) (i3 : Nat) (x3 : Int32) (b3 : Int32) (ex3 : x3 = nI i3) (hi3 : i3 ≤ (s 14).toNatClampNeg) (hn3 : (s 14).toNatClampNeg + 1 ≤ i3 + n3) (hb3 : b3 = sbN r (hbN r (s 6).toNatClampNeg) i3), ∀ (H : Heap) (locs : List Loc), gW D Hb lv ad (mJ ce0 ad cI cZ (upd s 0 0) r) H → gL Hb locs → ∀ (ls : Array Slot), lv_has ls 5 [(0, .ref (ad 0)), (1, .int w), (2, .int a), (3, .int b3), (4, .int x3)] → W p0 l e0 (headSpec wsX10_count { frames := 1, cells := 0, slots := 0, locals := 23 }).room s0 m0 ([.ref (ad 0), .int w] : List Value).toArray below meth c0 H locs 0 0 (MQ below (gQ D Hb lv ad (some (.int (vCn w s r))) (mJ ce0 ad cI cZ (upd s 0 0) r)) ([.ref (ad 0), .int w] : List Value).toArray s0 0 0 (gA Hb)) (F0 m0 76 ls []) := by
                intro n3
                induction n3 with
                | zero => intro i3 x3 b3 ex3 hi3 hn3 hb3; exact absurd hn3 (by omega)
                | succ n3 ih3 =>
                  intro i3 x3 b3 ex3 hi3 hn3 hb3 H locs hG hL ls hl
                  have hbd3 : (s 14).toNatClampNeg ≤ 60 := t_ixl h4 h5; have hii3 : Int32.toNatClampNeg x3 = i3 := by { rw [ex3]; exact ix_nI (by omega) }
                  refine lv_iload hx hb dX10_count_76 (lv_at hl 4 rfl) ?_
                  refine lv_aload_n hx hb dX10_count_78 rfl (lv_at hl 0 rfl) ?_
                  refine m_gi (v := s 14) S hG 14 rfl (hts (.fieldLink RX10 186 "SwarmLineModel" "swarms" "I") (by decide +kernel)) dX10_count_79 rfl ?_
                  refine lv_icmp_ge (tgt := 116) hx hb dX10_count_82 (by decide) (fun c82 => ?_) (fun c82 => ?_)
                  ·
                    have hEq3 := cl_ge h4 hi3 (ex3 ▸ c82)
                    refine lv_iload_n hx hb dX10_count_116 rfl (lv_at hl 1 rfl) ?_
                    by_cases csw : w.toInt < 0 ∨ 11 < w.toInt
                    ·
                      refine lv_tableOut (tgt := 237) hx hb dX10_count_117 csw (by decide) ?_
                      refine lv_iconst (v := (-1)) hx hb dX10_count_237 (by decide) ?_
                      exact m_iret S hr hlocks hG hL dX10_count_238 (by exact vCn_out csw s r) (by rfl) (by rfl)
                    ·
                      have csx : w = 0 ∨ w = 1 ∨ w = 2 ∨ w = 3 ∨ w = 4 ∨ w = 5 ∨ w = 6 ∨ w = 7 ∨ w = 8 ∨ w = 9 ∨ w = 10 ∨ w = 11 := by simp only [t_eq]; simp; omega
                      rcases csx with csx | csx | csx | csx | csx | csx | csx | csx | csx | csx | csx | csx
                      ·
                        refine lv_tableIn (tgt := 180) (off := 63) hx hb dX10_count_117 (by rw [csx]; decide) (by rw [csx]; decide) (by rw [csx]; rfl) (by decide) ?_
                        refine lv_aload_n hx hb dX10_count_180 rfl (lv_at hl 0 rfl) ?_
                        refine m_gi (v := s 1) S hG 1 rfl (hts (.fieldLink RX10 206 "SwarmLineModel" "now" "I") (by decide +kernel)) dX10_count_181 rfl ?_
                        exact m_iret S hr hlocks hG hL dX10_count_184 (by rw [csx]; rfl) (by rfl) (by rfl)
                      ·
                        refine lv_tableIn (tgt := 185) (off := 68) hx hb dX10_count_117 (by rw [csx]; decide) (by rw [csx]; decide) (by rw [csx]; rfl) (by decide) ?_
                        refine lv_aload_n hx hb dX10_count_185 rfl (lv_at hl 0 rfl) ?_
                        refine m_gi (v := s 6) S hG 6 rfl (hts (.fieldLink RX10 183 "SwarmLineModel" "hives" "I") (by decide +kernel)) dX10_count_186 rfl ?_
                        exact m_iret S hr hlocks hG hL dX10_count_189 (by rw [csx]; rfl) (by rfl) (by rfl)
                      ·
                        refine lv_tableIn (tgt := 190) (off := 73) hx hb dX10_count_117 (by rw [csx]; decide) (by rw [csx]; decide) (by rw [csx]; rfl) (by decide) ?_
                        refine lv_aload_n hx hb dX10_count_190 rfl (lv_at hl 0 rfl) ?_
                        refine m_gi (v := s 14) S hG 14 rfl (hts (.fieldLink RX10 186 "SwarmLineModel" "swarms" "I") (by decide +kernel)) dX10_count_191 rfl ?_
                        exact m_iret S hr hlocks hG hL dX10_count_194 (by rw [csx]; rfl) (by rfl) (by rfl)
                      ·
                        refine lv_tableIn (tgt := 195) (off := 78) hx hb dX10_count_117 (by rw [csx]; decide) (by rw [csx]; decide) (by rw [csx]; rfl) (by decide) ?_
                        refine lv_aload_n hx hb dX10_count_195 rfl (lv_at hl 0 rfl) ?_
                        refine m_gi (v := s 26) S hG 26 rfl (hts (.fieldLink RX10 189 "SwarmLineModel" "keepers" "I") (by decide +kernel)) dX10_count_196 rfl ?_
                        exact m_iret S hr hlocks hG hL dX10_count_199 (by rw [csx]; rfl) (by rfl) (by rfl)
                      ·
                        refine lv_tableIn (tgt := 200) (off := 83) hx hb dX10_count_117 (by rw [csx]; decide) (by rw [csx]; decide) (by rw [csx]; rfl) (by decide) ?_
                        refine lv_aload_n hx hb dX10_count_200 rfl (lv_at hl 0 rfl) ?_
                        refine m_gi (v := s 39) S hG 39 rfl (hts (.fieldLink RX10 192 "SwarmLineModel" "cases" "I") (by decide +kernel)) dX10_count_201 rfl ?_
                        exact m_iret S hr hlocks hG hL dX10_count_204 (by rw [csx]; rfl) (by rfl) (by rfl)
                      ·
                        refine lv_tableIn (tgt := 205) (off := 88) hx hb dX10_count_117 (by rw [csx]; decide) (by rw [csx]; decide) (by rw [csx]; rfl) (by decide) ?_
                        refine lv_aload_n hx hb dX10_count_205 rfl (lv_at hl 0 rfl) ?_
                        refine m_gi (v := s 40) S hG 40 rfl (hts (.fieldLink RX10 293 "SwarmLineModel" "calls" "I") (by decide +kernel)) dX10_count_206 rfl ?_
                        exact m_iret S hr hlocks hG hL dX10_count_209 (by rw [csx]; rfl) (by rfl) (by rfl)
                      ·
                        refine lv_tableIn (tgt := 210) (off := 93) hx hb dX10_count_117 (by rw [csx]; decide) (by rw [csx]; decide) (by rw [csx]; rfl) (by decide) ?_
                        refine lv_aload_n hx hb dX10_count_210 rfl (lv_at hl 0 rfl) ?_
                        refine m_gi (v := s 52) S hG 52 rfl (hts (.fieldLink RX10 309 "SwarmLineModel" "lines" "I") (by decide +kernel)) dX10_count_211 rfl ?_
                        exact m_iret S hr hlocks hG hL dX10_count_214 (by rw [csx]; rfl) (by rfl) (by rfl)
                      ·
                        refine lv_tableIn (tgt := 215) (off := 98) hx hb dX10_count_117 (by rw [csx]; decide) (by rw [csx]; decide) (by rw [csx]; rfl) (by decide) ?_
                        refine lv_aload_n hx hb dX10_count_215 rfl (lv_at hl 0 rfl) ?_
                        refine lv_iconst (v := 0) hx hb dX10_count_216 (by decide) ?_
                        refine m_callV (n := 1) (As := [.int 0]) (rest := []) (st1 := .int (cnS r 0 ((upd s 0 0) 14).toNatClampNeg) :: []) S hG hL (c_X10_inState hlv 0 (upd s 0 0) r (h4) (h5)) gX10_count_X10_inState rfl (by decide +kernel) ⟨Nat.le_of_ble_eq_true rfl, Nat.le_of_ble_eq_true rfl⟩ rfl hl.1 rfl (Nat.le_of_ble_eq_true rfl) dX10_count_217 ⟨Nat.zero_le _, Nat.zero_le _⟩ (rfl) (fun H locs hG hL => ?_)
                        exact m_iret S hr hlocks hG hL dX10_count_220 (by rw [csx]; rfl) (by rfl) (by rfl)
                      ·
                        refine lv_tableIn (tgt := 221) (off := 104) hx hb dX10_count_117 (by rw [csx]; decide) (by rw [csx]; decide) (by rw [csx]; rfl) (by decide) ?_
                        refine lv_aload_n hx hb dX10_count_221 rfl (lv_at hl 0 rfl) ?_
                        refine lv_iconst (v := 1) hx hb dX10_count_222 (by decide) ?_
                        refine m_callV (n := 1) (As := [.int 1]) (rest := []) (st1 := .int (cnS r 1 ((upd s 0 0) 14).toNatClampNeg) :: []) S hG hL (c_X10_inState hlv 1 (upd s 0 0) r (h4) (h5)) gX10_count_X10_inState rfl (by decide +kernel) ⟨Nat.le_of_ble_eq_true rfl, Nat.le_of_ble_eq_true rfl⟩ rfl hl.1 rfl (Nat.le_of_ble_eq_true rfl) dX10_count_223 ⟨Nat.zero_le _, Nat.zero_le _⟩ (rfl) (fun H locs hG hL => ?_)
                        exact m_iret S hr hlocks hG hL dX10_count_226 (by rw [csx]; rfl) (by rfl) (by rfl)
                      ·
                        refine lv_tableIn (tgt := 227) (off := 110) hx hb dX10_count_117 (by rw [csx]; decide) (by rw [csx]; decide) (by rw [csx]; rfl) (by decide) ?_
                        refine lv_aload_n hx hb dX10_count_227 rfl (lv_at hl 0 rfl) ?_
                        refine lv_iconst (v := 2) hx hb dX10_count_228 (by decide) ?_
                        refine m_callV (n := 1) (As := [.int 2]) (rest := []) (st1 := .int (cnS r 2 ((upd s 0 0) 14).toNatClampNeg) :: []) S hG hL (c_X10_inState hlv 2 (upd s 0 0) r (h4) (h5)) gX10_count_X10_inState rfl (by decide +kernel) ⟨Nat.le_of_ble_eq_true rfl, Nat.le_of_ble_eq_true rfl⟩ rfl hl.1 rfl (Nat.le_of_ble_eq_true rfl) dX10_count_229 ⟨Nat.zero_le _, Nat.zero_le _⟩ (rfl) (fun H locs hG hL => ?_)
                        exact m_iret S hr hlocks hG hL dX10_count_232 (by rw [csx]; rfl) (by rfl) (by rfl)
                      ·
                        refine lv_tableIn (tgt := 233) (off := 116) hx hb dX10_count_117 (by rw [csx]; decide) (by rw [csx]; decide) (by rw [csx]; rfl) (by decide) ?_
                        refine lv_iload_n hx hb dX10_count_233 rfl (lv_at hl 2 rfl) ?_
                        exact m_iret S hr hlocks hG hL dX10_count_234 (by rw [csx, ha, hEq]; rfl) (by rfl) (by rfl)
                      ·
                        refine lv_tableIn (tgt := 235) (off := 118) hx hb dX10_count_117 (by rw [csx]; decide) (by rw [csx]; decide) (by rw [csx]; rfl) (by decide) ?_
                        refine lv_iload_n hx hb dX10_count_235 rfl (lv_at hl 3 rfl) ?_
                        exact m_iret S hr hlocks hG hL dX10_count_236 (by rw [csx, hb3, hEq3]; rfl) (by rfl) (by rfl)
                  ·
                    have hlt3 := cl_lt h4 hi3 (ex3 ▸ c82)
                    refine lv_iload_n hx hb dX10_count_85 rfl (lv_at hl 3 rfl) ?_
                    refine lv_aload_n hx hb dX10_count_86 rfl (lv_at hl 0 rfl) ?_
                    refine m_ga S hG 15 rfl (hts (.fieldLink RX10 43 "SwarmLineModel" "swarmState" "[I") (by decide +kernel)) dX10_count_87 ?_
                    refine lv_iload hx hb dX10_count_90 (lv_at hl 4 rfl) ?_
                    refine m_ldj (j := i3) (v := r 15 i3) S hG 15 rfl hii3 (show vp_in x3 60 from by rw [ex3]; exact vp_in_i (by omega) (by omega)) dX10_count_92 (rfl) ?_
                    refine lv_iconst (v := 2) hx hb dX10_count_93 (by decide) ?_
                    refine lv_icmp_ge (tgt := 107) hx hb dX10_count_94 (by decide) (fun c94 => ?_) (fun c94 => ?_)
                    ·
                      refine lv_iconst (v := 0) hx hb dX10_count_107 (by decide) ?_
                      refine lv_iadd hx hb dX10_count_108 ?_
                      refine lv_istore_n (lv' := [(3, .int (b3 + 0)), (0, .ref (ad 0)), (1, .int w), (2, .int a), (4, .int x3)]) hx hb dX10_count_109 rfl hl (by decide) rfl (fun ls hl => ?_)
                      refine lv_iinc (v := x3 + 1) (lv' := [(4, .int (x3 + 1)), (3, .int (b3 + 0)), (0, .ref (ad 0)), (1, .int w), (2, .int a)]) hx hb dX10_count_110 hl (k := 4) rfl (by rfl) (by decide) rfl (fun ls hl => ?_)
                      refine lv_goto (tgt := 76) hx hb dX10_count_113 (by decide) ?_
                      exact ih3  (i3 + 1) (x3 + 1) (b3 + 0) (by rw [ex3]; exact nI_1 i3) (hlt3) (by omega) (by rw [hb3]; simp only [sbN, eq_true c18, eq_true c54, eq_false c82, eq_true c94, ↓reduceIte]) _ _ hG hL _ (lv_sub hl [2, 3, 4, 1, 0] rfl)
                    ·
                      refine lv_aload_n hx hb dX10_count_97 rfl (lv_at hl 0 rfl) ?_
                      refine m_ga S hG 17 rfl (hts (.fieldLink RX10 49 "SwarmLineModel" "swarmBees" "[I") (by decide +kernel)) dX10_count_98 ?_
                      refine lv_iload hx hb dX10_count_101 (lv_at hl 4 rfl) ?_
                      refine m_ldj (j := i3) (v := r 17 i3) S hG 17 rfl hii3 (show vp_in x3 60 from by rw [ex3]; exact vp_in_i (by omega) (by omega)) dX10_count_103 (rfl) ?_
                      refine lv_goto (tgt := 108) hx hb dX10_count_104 (by decide) ?_
                      refine lv_iadd hx hb dX10_count_108 ?_
                      refine lv_istore_n (lv' := [(3, .int (b3 + (r 17 i3))), (0, .ref (ad 0)), (1, .int w), (2, .int a), (4, .int x3)]) hx hb dX10_count_109 rfl hl (by decide) rfl (fun ls hl => ?_)
                      refine lv_iinc (v := x3 + 1) (lv' := [(4, .int (x3 + 1)), (3, .int (b3 + (r 17 i3))), (0, .ref (ad 0)), (1, .int w), (2, .int a)]) hx hb dX10_count_110 hl (k := 4) rfl (by rfl) (by decide) rfl (fun ls hl => ?_)
                      refine lv_goto (tgt := 76) hx hb dX10_count_113 (by decide) ?_
                      exact ih3  (i3 + 1) (x3 + 1) (b3 + (r 17 i3)) (by rw [ex3]; exact nI_1 i3) (hlt3) (by omega) (by rw [hb3]; simp only [sbN, eq_true c18, eq_true c54, eq_false c82, eq_false c94, ↓reduceIte]) _ _ hG hL _ (lv_sub hl [2, 3, 4, 1, 0] rfl)
              exact LP3 ((s 14).toNatClampNeg + 1) 0 0 b (rfl) (Nat.zero_le _) (by omega) (by rw [hq, hEq2]; rfl) _ _ hG hL _ (lv_sub hl [1, 2, 3, 4, 0] rfl)
            ·
              have hlt2 := cl_lt h2 hi2 (ex2 ▸ c54)
              refine lv_iload_n hx hb dX10_count_57 rfl (lv_at hl 3 rfl) ?_
              refine lv_aload_n hx hb dX10_count_58 rfl (lv_at hl 0 rfl) ?_
              refine m_ga S hG 9 rfl (hts (.fieldLink RX10 28 "SwarmLineModel" "hiveBees" "[I") (by decide +kernel)) dX10_count_59 ?_
              refine lv_iload hx hb dX10_count_62 (lv_at hl 4 rfl) ?_
              refine m_ldj (j := i2) (v := r 9 i2) S hG 9 rfl hii2 (show vp_in x2 20 from by rw [ex2]; exact vp_in_i (by omega) (by omega)) dX10_count_64 (rfl) ?_
              refine lv_iadd hx hb dX10_count_65 ?_
              refine lv_istore_n (lv' := [(3, .int (b + (r 9 i2))), (0, .ref (ad 0)), (1, .int w), (2, .int a), (4, .int x2)]) hx hb dX10_count_66 rfl hl (by decide) rfl (fun ls hl => ?_)
              refine lv_iinc (v := x2 + 1) (lv' := [(4, .int (x2 + 1)), (3, .int (b + (r 9 i2))), (0, .ref (ad 0)), (1, .int w), (2, .int a)]) hx hb dX10_count_67 hl (k := 4) rfl (by rfl) (by decide) rfl (fun ls hl => ?_)
              refine lv_goto (tgt := 48) hx hb dX10_count_70 (by decide) ?_
              exact ih2  (i2 + 1) (x2 + 1) (b + (r 9 i2)) (by rw [ex2]; exact nI_1 i2) (hlt2) (by omega) (by rw [hq]; rfl) _ _ hG hL _ (lv_sub hl [2, 3, 4, 1, 0] rfl)
        exact LP2 ((s 6).toNatClampNeg + 1) 0 0 0 (rfl) (Nat.zero_le _) (by omega) (rfl) _ _ hG hL _ (lv_sub hl [1, 2, 3, 4, 0] rfl)
      ·
        have hlt := cl_lt h0 hi (ex ▸ c18)
        refine lv_iload_n hx hb dX10_count_21 rfl (lv_at hl 2 rfl) ?_
        refine lv_aload_n hx hb dX10_count_22 rfl (lv_at hl 0 rfl) ?_
        refine m_ga S hG 41 rfl (hts (.fieldLink RX10 112 "SwarmLineModel" "caseState" "[I") (by decide +kernel)) dX10_count_23 ?_
        refine lv_iload hx hb dX10_count_26 (lv_at hl 4 rfl) ?_
        refine m_ldj (j := i) (v := r 41 i) S hG 41 rfl hii (show vp_in x 60 from by rw [ex]; exact vp_in_i (by omega) (by omega)) dX10_count_28 (rfl) ?_
        refine lv_if_ne (tgt := 36) hx hb dX10_count_29 (by decide) (fun c29 => ?_) (fun c29 => ?_)
        ·
          refine lv_iconst (v := 0) hx hb dX10_count_36 (by decide) ?_
          refine lv_iadd hx hb dX10_count_37 ?_
          refine lv_istore_n (lv' := [(2, .int (a + 0)), (0, .ref (ad 0)), (1, .int w), (3, .int 0), (4, .int x)]) hx hb dX10_count_38 rfl hl (by decide) rfl (fun ls hl => ?_)
          refine lv_iinc (v := x + 1) (lv' := [(4, .int (x + 1)), (2, .int (a + 0)), (0, .ref (ad 0)), (1, .int w), (3, .int 0)]) hx hb dX10_count_39 hl (k := 4) rfl (by rfl) (by decide) rfl (fun ls hl => ?_)
          refine lv_goto (tgt := 12) hx hb dX10_count_42 (by decide) ?_
          exact ih  (i + 1) (x + 1) (a + 0) (by rw [ex]; exact nI_1 i) (hlt) (by omega) (by rw [ha]; simp only [opN, eq_false c18, eq_false c29, ↓reduceIte]) _ _ hG hL _ (lv_sub hl [2, 3, 1, 4, 0] rfl)
        ·
          refine lv_iconst (v := 1) hx hb dX10_count_32 (by decide) ?_
          refine lv_goto (tgt := 37) hx hb dX10_count_33 (by decide) ?_
          refine lv_iadd hx hb dX10_count_37 ?_
          refine lv_istore_n (lv' := [(2, .int (a + 1)), (0, .ref (ad 0)), (1, .int w), (3, .int 0), (4, .int x)]) hx hb dX10_count_38 rfl hl (by decide) rfl (fun ls hl => ?_)
          refine lv_iinc (v := x + 1) (lv' := [(4, .int (x + 1)), (2, .int (a + 1)), (0, .ref (ad 0)), (1, .int w), (3, .int 0)]) hx hb dX10_count_39 hl (k := 4) rfl (by rfl) (by decide) rfl (fun ls hl => ?_)
          refine lv_goto (tgt := 12) hx hb dX10_count_42 (by decide) ?_
          exact ih  (i + 1) (x + 1) (a + 1) (by rw [ex]; exact nI_1 i) (hlt) (by omega) (by rw [ha]; simp only [opN, eq_false c18, eq_true c29, ↓reduceIte]) _ _ hG hL _ (lv_sub hl [2, 3, 1, 4, 0] rfl)
  exact LP ((s 39).toNatClampNeg + 1) 0 0 0 (rfl) (Nat.zero_le _) (by omega) (rfl) _ _ hG hL _ (lv_sub hl [3, 4, 2, 1, 0] rfl)
