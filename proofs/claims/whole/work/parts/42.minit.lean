theorem mT_len (j : Nat) (ad : Nat → Nat) (s : Nat → Int32) : (mT j ad s).length = 69 := rfl
section IAR
variable {p : Program} {l : Launch} {e : Env} {R : Room} {s : State} {m : MethodId} {args : Array Value} {below : List Frame} {meth : Method} {c : Code} {H : Heap} {locs : List Loc} {cells slots : Nat} {Q : State → Prop}
variable {cc : ByteArray} {pc nL : Nat} {ls : Array Slot} {D : va_G} {cI cZ cB cO cR cJ : ClassId} {Hb : Heap} {lv0 : Nat → Prop} {ad : Nat → Nat} {ce0 : Nat → va_E} {Ts : List Cond} {sv : Nat → Int32}
theorem i_arr {sz n f j j2 N' index : Nat} {v : Int32} (S : CallFix p m c cc nL s args Ts RX10) (hK : va_K D vwCl (tyL cI cZ cB cO cR cJ) s) (hin : ∀ w ∈ wsX100, w ∈ Ts) (hin2 : meth.name = "<init>") (hlv0 : ∀ k, lv0 k → 70 ≤ k) (had : ∀ i, i < 55 → ad (mAr.getD i 0 + 1) = sz + i) (hG : gW D Hb (lvI lv0 n) ad (ceI ce0 ad cI cZ sv j) H) (hL : gL Hb locs) (hsz : H.size = sz + n) (hn : n < 55) (hf : mAr.getD n 0 = f) (hfa : mIa f = true) (hlen : mLen f = N') (hv : v.toNatClampNeg = N') (hv0 : ¬ v < 0) (hby : N' * componentBytes .int ≤ 536870912)
    (harr : (Cond.arrayClass .int).before args s = true) (hlink : (Cond.fieldLink RX10 index RX10 (TX10 f).2.1 (TX10 f).2.2.1).before args s = true) (hfin : (TX10 f).2.2.2 = true) (hdecl : (TX10 f).1 = RX10) (hd : parseFieldDescriptor (TX10 f).2.2.1 = some (.array .int)) (hset : (mT j ad sv).set f (.ref (ad (f + 1))) = mT j2 ad sv) (hcells : cells + 1 ≤ R.cells) (hslots : slots + N' ≤ R.slots) (d1 : decode cc pc = .ok (.newarray .int, 2)) (d2 : decode cc (pc + 2) = .ok (.putfield index, 3))
    (kk : ∀ (H1 : Heap) (locs1 : List Loc), gW D Hb (lvI lv0 (n + 1)) ad (ceI ce0 ad cI cZ sv j2) H1 → gL Hb locs1 → H1.size = sz + (n + 1) → W p l e R s m args below meth c H1 locs1 (cells + 1) (slots + N') Q (F0 m (pc + 2 + 3) ls [])) : W p l e R s m args below meth c H locs cells slots Q (F0 m pc ls (.int v :: .ref (ad 0) :: [])) := by
  subst hf
  subst hlen
  refine g_newa (atype := .int) (cA := cI) (N' := mLen (mAr.getD n 0)) (a0 := (mLen (mAr.getD n 0), .inl (fun _ => 0))) S hK hG harr 0 rfl (mAr.getD n 0 + 1) (lvI_n hlv0 hn) (by rw [had n hn, hsz]) (fun _ => rfl) hv0 hv hby hcells hslots d1 (fun H1 hG1 hz1 => ?_)
  have hG2 := hG1.less (lv' := lvI lv0 (n + 1)) lvI_s
  rw [ceI_a ce0 ad cI cZ sv j hfa] at hG2
  have h69 := mAr_lt n hn
  refine g_putF (C := RX10) (T := TX10) (N := 69) (ci := 11) (ref := RX10) (fs := mT j ad sv) S hK hG2 hL hin tyX10 tyX10_ok nmX10 0 lvI_0 (ceI_0 ..) rfl (mAr.getD n 0) h69 hlink (by rw [hdecl]; exact fun _ h9 => h9) hfin hin2 hdecl hd rfl rfl (by rw [mT_len]; exact h69) d2 (fun H2 locs2 hG3 hL3 hz2 => ?_)
  rw [ceI_p ce0 ad cI cZ sv j j2 hset] at hG3
  exact kk H2 locs2 hG3 hL3 (by rw [hz2, hz1, hsz]; rfl)
theorem i_arz {sz n f j j2 N' index : Nat} {v : Int32} (S : CallFix p m c cc nL s args Ts RX10) (hK : va_K D vwCl (tyL cI cZ cB cO cR cJ) s) (hin : ∀ w ∈ wsX100, w ∈ Ts) (hin2 : meth.name = "<init>") (hlv0 : ∀ k, lv0 k → 70 ≤ k) (had : ∀ i, i < 55 → ad (mAr.getD i 0 + 1) = sz + i) (hG : gW D Hb (lvI lv0 n) ad (ceI ce0 ad cI cZ sv j) H) (hL : gL Hb locs) (hsz : H.size = sz + n) (hn : n < 55) (hf : mAr.getD n 0 = f) (hfa : mIz f = true) (hlen : mLen f = N') (hv : v.toNatClampNeg = N') (hv0 : ¬ v < 0) (hby : N' * componentBytes .boolean ≤ 536870912)
    (harr : (Cond.arrayClass .boolean).before args s = true) (hlink : (Cond.fieldLink RX10 index RX10 (TX10 f).2.1 (TX10 f).2.2.1).before args s = true) (hfin : (TX10 f).2.2.2 = true) (hdecl : (TX10 f).1 = RX10) (hd : parseFieldDescriptor (TX10 f).2.2.1 = some (.array .boolean)) (hset : (mT j ad sv).set f (.ref (ad (f + 1))) = mT j2 ad sv) (hcells : cells + 1 ≤ R.cells) (hslots : slots + N' ≤ R.slots) (d1 : decode cc pc = .ok (.newarray .boolean, 2)) (d2 : decode cc (pc + 2) = .ok (.putfield index, 3))
    (kk : ∀ (H1 : Heap) (locs1 : List Loc), gW D Hb (lvI lv0 (n + 1)) ad (ceI ce0 ad cI cZ sv j2) H1 → gL Hb locs1 → H1.size = sz + (n + 1) → W p l e R s m args below meth c H1 locs1 (cells + 1) (slots + N') Q (F0 m (pc + 2 + 3) ls [])) : W p l e R s m args below meth c H locs cells slots Q (F0 m pc ls (.int v :: .ref (ad 0) :: [])) := by
  subst hf
  subst hlen
  refine g_newa (atype := .boolean) (cA := cZ) (N' := mLen (mAr.getD n 0)) (a0 := (mLen (mAr.getD n 0), .inl (fun _ => 0))) S hK hG harr 1 rfl (mAr.getD n 0 + 1) (lvI_n hlv0 hn) (by rw [had n hn, hsz]) (fun _ => rfl) hv0 hv hby hcells hslots d1 (fun H1 hG1 hz1 => ?_)
  have hG2 := hG1.less (lv' := lvI lv0 (n + 1)) lvI_s
  rw [ceI_z ce0 ad cI cZ sv j hfa] at hG2
  have h69 := mAr_lt n hn
  refine g_putF (C := RX10) (T := TX10) (N := 69) (ci := 11) (ref := RX10) (fs := mT j ad sv) S hK hG2 hL hin tyX10 tyX10_ok nmX10 0 lvI_0 (ceI_0 ..) rfl (mAr.getD n 0) h69 hlink (by rw [hdecl]; exact fun _ h9 => h9) hfin hin2 hdecl hd rfl rfl (by rw [mT_len]; exact h69) d2 (fun H2 locs2 hG3 hL3 hz2 => ?_)
  rw [ceI_p ce0 ad cI cZ sv j j2 hset] at hG3
  exact kk H2 locs2 hG3 hL3 (by rw [hz2, hz1, hsz]; rfl)
end IAR
set_option maxHeartbeats 8000000 in
set_option maxRecDepth 100000 in
theorem c_X10_init {l : Launch} {D : va_G} {cI cZ cB cO cR cJ : ClassId} {Hb : Heap} {lv0 : Nat → Prop} {ad : Nat → Nat} {ce0 : Nat → va_E} (hlv0 : ∀ k, lv0 k → 70 ≤ k) (sz : Nat) (had : ∀ i, i < 55 → ad (mAr.getD i 0 + 1) = sz + i) : Met l yX10_init wsX10_init { frames := 1, cells := 55, slots := 6547, locals := 12 } (va_Pc [.ref (ad 0)] (fun U => U.heap.size = sz ∧ gP D (tyL cI cZ cB cO cR cJ) Hb (lvI lv0 0) ad (ceI ce0 ad cI cZ (fun _ => 0) 0) U)) (fun _ _ oc t => oc = .returned none ∧ gW D Hb (lvI lv0 55) ad (mJ ce0 ad cI cZ sI (rI 31)) t.heap : Array Value → State → Outcome → State → Prop) 55 6547 (gA Hb) := by
  refine Met.ofW (cc := cX10_init) (maxL := 2) (ret := none) (by decide) rfl ?_
  intro p0 e0 s0 m0 args below meth c0 s₁ B hml hv
  obtain ⟨rfl, hsz, hG, hK⟩ := hv
  have hx := B.exec
  have hb := B.bytes
  have hr := B.returns
  have hts := atoms_spec (ws := wsX10_init) B.pre
  have hown : s0.vm.findClass RX10 = some m0.cls := findClass_of_methodNamed B.named
  have hlocks := B.notSynchronized
  have hin2 : meth.name = "<init>" := (name_of_methodNamed B.named B.method).1
  have S0 : CallFix p0 m0 c0 cX10_init 2 s0 _ wsX10_init RX10 := ⟨hx, hb, hml, hown, hts⟩
  have hin : ∀ w ∈ wsX100, w ∈ wsX10_init := fun w h => List.mem_cons_of_mem _ (List.mem_append_right _ h)
  have hL : gL Hb [] := gL.nil
  have hl := lv_entry ([.ref (ad 0)]) (n := 2) (Nat.le_of_ble_eq_true rfl)
  rw [lg_entry_eq]
  generalize (lg_sl ([.ref (ad 0)]) ++ List.replicate (2 - (lg_sl ([.ref (ad 0)])).length) Slot.unset).toArray = ls at hl ⊢
  have hl : lv_has ls 2 [(0, .ref (ad 0))] := hl
  generalize hHe : s0.heap = H at hG hsz ⊢
  refine lv_aload_n hx hb dX10_init_0 rfl (lv_at hl 0 rfl) ?_
  refine W.objInit hx hb hown (hts (.methodLink RX10 1 objectInit) (by decide +kernel)) (hts (.instanceMethod objectInit) (by decide +kernel)) (hts (.code objectInit ⟨#[0xb1]⟩ 1 none) (by decide +kernel)) rfl (by rw [hml]; exact hl.1) rfl dX10_init_1 (Nat.le_of_ble_eq_true rfl) (Nat.le_of_ble_eq_true rfl) ?_
  refine W.eq (g2 := F0 m0 4 ls []) rfl ?_
  refine lv_aload_n hx hb dX10_init_4 rfl (lv_at hl 0 rfl) ?_
  refine lv_bipush (v := 31) hx hb dX10_init_5 (by decide) ?_
  refine i_arr (sz := sz) (n := 0) (f := 2) (j := 0) (j2 := 3) (N' := 31) S0 hK hin hin2 hlv0 had hG hL hsz (by decide) rfl rfl rfl (by decide) (by decide) (by decide) (hts (.arrayClass .int) (by decide +kernel)) (hts (.fieldLink RX10 7 "SwarmLineModel" "warmth" "[I") (by decide +kernel)) rfl rfl (by decide +kernel) rfl (Nat.le_of_ble_eq_true rfl) (Nat.le_of_ble_eq_true rfl) dX10_init_7 dX10_init_9 (fun H locs hG hL hsz => ?_)
  refine lv_aload_n hx hb dX10_init_12 rfl (lv_at hl 0 rfl) ?_
  refine lv_bipush (v := 31) hx hb dX10_init_13 (by decide) ?_
  refine i_arr (sz := sz) (n := 1) (f := 3) (j := 3) (j2 := 4) (N' := 31) S0 hK hin hin2 hlv0 had hG hL hsz (by decide) rfl rfl rfl (by decide) (by decide) (by decide) (hts (.arrayClass .int) (by decide +kernel)) (hts (.fieldLink RX10 13 "SwarmLineModel" "bloom" "[I") (by decide +kernel)) rfl rfl (by decide +kernel) rfl (Nat.le_of_ble_eq_true rfl) (Nat.le_of_ble_eq_true rfl) dX10_init_15 dX10_init_17 (fun H locs hG hL hsz => ?_)
  refine lv_aload_n hx hb dX10_init_20 rfl (lv_at hl 0 rfl) ?_
  refine lv_bipush (v := 31) hx hb dX10_init_21 (by decide) ?_
  refine i_arr (sz := sz) (n := 2) (f := 4) (j := 4) (j2 := 5) (N' := 31) S0 hK hin hin2 hlv0 had hG hL hsz (by decide) rfl rfl rfl (by decide) (by decide) (by decide) (hts (.arrayClass .int) (by decide +kernel)) (hts (.fieldLink RX10 16 "SwarmLineModel" "foreLeast" "[I") (by decide +kernel)) rfl rfl (by decide +kernel) rfl (Nat.le_of_ble_eq_true rfl) (Nat.le_of_ble_eq_true rfl) dX10_init_23 dX10_init_25 (fun H locs hG hL hsz => ?_)
  refine lv_aload_n hx hb dX10_init_28 rfl (lv_at hl 0 rfl) ?_
  refine lv_bipush (v := 31) hx hb dX10_init_29 (by decide) ?_
  refine i_arr (sz := sz) (n := 3) (f := 5) (j := 5) (j2 := 6) (N' := 31) S0 hK hin hin2 hlv0 had hG hL hsz (by decide) rfl rfl rfl (by decide) (by decide) (by decide) (hts (.arrayClass .int) (by decide +kernel)) (hts (.fieldLink RX10 19 "SwarmLineModel" "foreMost" "[I") (by decide +kernel)) rfl rfl (by decide +kernel) rfl (Nat.le_of_ble_eq_true rfl) (Nat.le_of_ble_eq_true rfl) dX10_init_31 dX10_init_33 (fun H locs hG hL hsz => ?_)
  refine lv_aload_n hx hb dX10_init_36 rfl (lv_at hl 0 rfl) ?_
  refine lv_bipush (v := 20) hx hb dX10_init_37 (by decide) ?_
  refine i_arr (sz := sz) (n := 4) (f := 7) (j := 6) (j2 := 8) (N' := 20) S0 hK hin hin2 hlv0 had hG hL hsz (by decide) rfl rfl rfl (by decide) (by decide) (by decide) (hts (.arrayClass .int) (by decide +kernel)) (hts (.fieldLink RX10 22 "SwarmLineModel" "hiveX" "[I") (by decide +kernel)) rfl rfl (by decide +kernel) rfl (Nat.le_of_ble_eq_true rfl) (Nat.le_of_ble_eq_true rfl) dX10_init_39 dX10_init_41 (fun H locs hG hL hsz => ?_)
  refine lv_aload_n hx hb dX10_init_44 rfl (lv_at hl 0 rfl) ?_
  refine lv_bipush (v := 20) hx hb dX10_init_45 (by decide) ?_
  refine i_arr (sz := sz) (n := 5) (f := 8) (j := 8) (j2 := 9) (N' := 20) S0 hK hin hin2 hlv0 had hG hL hsz (by decide) rfl rfl rfl (by decide) (by decide) (by decide) (hts (.arrayClass .int) (by decide +kernel)) (hts (.fieldLink RX10 25 "SwarmLineModel" "hiveY" "[I") (by decide +kernel)) rfl rfl (by decide +kernel) rfl (Nat.le_of_ble_eq_true rfl) (Nat.le_of_ble_eq_true rfl) dX10_init_47 dX10_init_49 (fun H locs hG hL hsz => ?_)
  refine lv_aload_n hx hb dX10_init_52 rfl (lv_at hl 0 rfl) ?_
  refine lv_bipush (v := 20) hx hb dX10_init_53 (by decide) ?_
  refine i_arr (sz := sz) (n := 6) (f := 9) (j := 9) (j2 := 10) (N' := 20) S0 hK hin hin2 hlv0 had hG hL hsz (by decide) rfl rfl rfl (by decide) (by decide) (by decide) (hts (.arrayClass .int) (by decide +kernel)) (hts (.fieldLink RX10 28 "SwarmLineModel" "hiveBees" "[I") (by decide +kernel)) rfl rfl (by decide +kernel) rfl (Nat.le_of_ble_eq_true rfl) (Nat.le_of_ble_eq_true rfl) dX10_init_55 dX10_init_57 (fun H locs hG hL hsz => ?_)
  refine lv_aload_n hx hb dX10_init_60 rfl (lv_at hl 0 rfl) ?_
  refine lv_bipush (v := 20) hx hb dX10_init_61 (by decide) ?_
  refine i_arr (sz := sz) (n := 7) (f := 10) (j := 10) (j2 := 11) (N' := 20) S0 hK hin hin2 hlv0 had hG hL hsz (by decide) rfl rfl rfl (by decide) (by decide) (by decide) (hts (.arrayClass .int) (by decide +kernel)) (hts (.fieldLink RX10 31 "SwarmLineModel" "hiveRoom" "[I") (by decide +kernel)) rfl rfl (by decide +kernel) rfl (Nat.le_of_ble_eq_true rfl) (Nat.le_of_ble_eq_true rfl) dX10_init_63 dX10_init_65 (fun H locs hG hL hsz => ?_)
  refine lv_aload_n hx hb dX10_init_68 rfl (lv_at hl 0 rfl) ?_
  refine lv_bipush (v := 20) hx hb dX10_init_69 (by decide) ?_
  refine i_arr (sz := sz) (n := 8) (f := 11) (j := 11) (j2 := 12) (N' := 20) S0 hK hin hin2 hlv0 had hG hL hsz (by decide) rfl rfl rfl (by decide) (by decide) (by decide) (hts (.arrayClass .int) (by decide +kernel)) (hts (.fieldLink RX10 34 "SwarmLineModel" "hiveMark" "[I") (by decide +kernel)) rfl rfl (by decide +kernel) rfl (Nat.le_of_ble_eq_true rfl) (Nat.le_of_ble_eq_true rfl) dX10_init_71 dX10_init_73 (fun H locs hG hL hsz => ?_)
  refine lv_aload_n hx hb dX10_init_76 rfl (lv_at hl 0 rfl) ?_
  refine lv_bipush (v := 20) hx hb dX10_init_77 (by decide) ?_
  refine i_arr (sz := sz) (n := 9) (f := 12) (j := 12) (j2 := 13) (N' := 20) S0 hK hin hin2 hlv0 had hG hL hsz (by decide) rfl rfl rfl (by decide) (by decide) (by decide) (hts (.arrayClass .int) (by decide +kernel)) (hts (.fieldLink RX10 37 "SwarmLineModel" "hiveWarm" "[I") (by decide +kernel)) rfl rfl (by decide +kernel) rfl (Nat.le_of_ble_eq_true rfl) (Nat.le_of_ble_eq_true rfl) dX10_init_79 dX10_init_81 (fun H locs hG hL hsz => ?_)
  refine lv_aload_n hx hb dX10_init_84 rfl (lv_at hl 0 rfl) ?_
  refine lv_bipush (v := 20) hx hb dX10_init_85 (by decide) ?_
  refine i_arr (sz := sz) (n := 10) (f := 13) (j := 13) (j2 := 14) (N' := 20) S0 hK hin hin2 hlv0 had hG hL hsz (by decide) rfl rfl rfl (by decide) (by decide) (by decide) (hts (.arrayClass .int) (by decide +kernel)) (hts (.fieldLink RX10 40 "SwarmLineModel" "hiveLast" "[I") (by decide +kernel)) rfl rfl (by decide +kernel) rfl (Nat.le_of_ble_eq_true rfl) (Nat.le_of_ble_eq_true rfl) dX10_init_87 dX10_init_89 (fun H locs hG hL hsz => ?_)
  refine lv_aload_n hx hb dX10_init_92 rfl (lv_at hl 0 rfl) ?_
  refine lv_bipush (v := 60) hx hb dX10_init_93 (by decide) ?_
  refine i_arr (sz := sz) (n := 11) (f := 15) (j := 14) (j2 := 16) (N' := 60) S0 hK hin hin2 hlv0 had hG hL hsz (by decide) rfl rfl rfl (by decide) (by decide) (by decide) (hts (.arrayClass .int) (by decide +kernel)) (hts (.fieldLink RX10 43 "SwarmLineModel" "swarmState" "[I") (by decide +kernel)) rfl rfl (by decide +kernel) rfl (Nat.le_of_ble_eq_true rfl) (Nat.le_of_ble_eq_true rfl) dX10_init_95 dX10_init_97 (fun H locs hG hL hsz => ?_)
  refine lv_aload_n hx hb dX10_init_100 rfl (lv_at hl 0 rfl) ?_
  refine lv_bipush (v := 60) hx hb dX10_init_101 (by decide) ?_
  refine i_arr (sz := sz) (n := 12) (f := 16) (j := 16) (j2 := 17) (N' := 60) S0 hK hin hin2 hlv0 had hG hL hsz (by decide) rfl rfl rfl (by decide) (by decide) (by decide) (hts (.arrayClass .int) (by decide +kernel)) (hts (.fieldLink RX10 46 "SwarmLineModel" "swarmHive" "[I") (by decide +kernel)) rfl rfl (by decide +kernel) rfl (Nat.le_of_ble_eq_true rfl) (Nat.le_of_ble_eq_true rfl) dX10_init_103 dX10_init_105 (fun H locs hG hL hsz => ?_)
  refine lv_aload_n hx hb dX10_init_108 rfl (lv_at hl 0 rfl) ?_
  refine lv_bipush (v := 60) hx hb dX10_init_109 (by decide) ?_
  refine i_arr (sz := sz) (n := 13) (f := 17) (j := 17) (j2 := 18) (N' := 60) S0 hK hin hin2 hlv0 had hG hL hsz (by decide) rfl rfl rfl (by decide) (by decide) (by decide) (hts (.arrayClass .int) (by decide +kernel)) (hts (.fieldLink RX10 49 "SwarmLineModel" "swarmBees" "[I") (by decide +kernel)) rfl rfl (by decide +kernel) rfl (Nat.le_of_ble_eq_true rfl) (Nat.le_of_ble_eq_true rfl) dX10_init_111 dX10_init_113 (fun H locs hG hL hsz => ?_)
  refine lv_aload_n hx hb dX10_init_116 rfl (lv_at hl 0 rfl) ?_
  refine lv_bipush (v := 60) hx hb dX10_init_117 (by decide) ?_
  refine i_arr (sz := sz) (n := 14) (f := 18) (j := 18) (j2 := 19) (N' := 60) S0 hK hin hin2 hlv0 had hG hL hsz (by decide) rfl rfl rfl (by decide) (by decide) (by decide) (hts (.arrayClass .int) (by decide +kernel)) (hts (.fieldLink RX10 52 "SwarmLineModel" "swarmX" "[I") (by decide +kernel)) rfl rfl (by decide +kernel) rfl (Nat.le_of_ble_eq_true rfl) (Nat.le_of_ble_eq_true rfl) dX10_init_119 dX10_init_121 (fun H locs hG hL hsz => ?_)
  refine lv_aload_n hx hb dX10_init_124 rfl (lv_at hl 0 rfl) ?_
  refine lv_bipush (v := 60) hx hb dX10_init_125 (by decide) ?_
  refine i_arr (sz := sz) (n := 15) (f := 19) (j := 19) (j2 := 20) (N' := 60) S0 hK hin hin2 hlv0 had hG hL hsz (by decide) rfl rfl rfl (by decide) (by decide) (by decide) (hts (.arrayClass .int) (by decide +kernel)) (hts (.fieldLink RX10 55 "SwarmLineModel" "swarmY" "[I") (by decide +kernel)) rfl rfl (by decide +kernel) rfl (Nat.le_of_ble_eq_true rfl) (Nat.le_of_ble_eq_true rfl) dX10_init_127 dX10_init_129 (fun H locs hG hL hsz => ?_)
  refine lv_aload_n hx hb dX10_init_132 rfl (lv_at hl 0 rfl) ?_
  refine lv_bipush (v := 60) hx hb dX10_init_133 (by decide) ?_
  refine i_arr (sz := sz) (n := 16) (f := 20) (j := 20) (j2 := 21) (N' := 60) S0 hK hin hin2 hlv0 had hG hL hsz (by decide) rfl rfl rfl (by decide) (by decide) (by decide) (hts (.arrayClass .int) (by decide +kernel)) (hts (.fieldLink RX10 58 "SwarmLineModel" "swarmHeight" "[I") (by decide +kernel)) rfl rfl (by decide +kernel) rfl (Nat.le_of_ble_eq_true rfl) (Nat.le_of_ble_eq_true rfl) dX10_init_135 dX10_init_137 (fun H locs hG hL hsz => ?_)
  refine lv_aload_n hx hb dX10_init_140 rfl (lv_at hl 0 rfl) ?_
  refine lv_bipush (v := 60) hx hb dX10_init_141 (by decide) ?_
  refine i_arr (sz := sz) (n := 17) (f := 21) (j := 21) (j2 := 22) (N' := 60) S0 hK hin hin2 hlv0 had hG hL hsz (by decide) rfl rfl rfl (by decide) (by decide) (by decide) (hts (.arrayClass .int) (by decide +kernel)) (hts (.fieldLink RX10 61 "SwarmLineModel" "swarmLeft" "[I") (by decide +kernel)) rfl rfl (by decide +kernel) rfl (Nat.le_of_ble_eq_true rfl) (Nat.le_of_ble_eq_true rfl) dX10_init_143 dX10_init_145 (fun H locs hG hL hsz => ?_)
  refine lv_aload_n hx hb dX10_init_148 rfl (lv_at hl 0 rfl) ?_
  refine lv_bipush (v := 60) hx hb dX10_init_149 (by decide) ?_
  refine i_arr (sz := sz) (n := 18) (f := 22) (j := 22) (j2 := 23) (N' := 60) S0 hK hin hin2 hlv0 had hG hL hsz (by decide) rfl rfl rfl (by decide) (by decide) (by decide) (hts (.arrayClass .int) (by decide +kernel)) (hts (.fieldLink RX10 64 "SwarmLineModel" "swarmPatience" "[I") (by decide +kernel)) rfl rfl (by decide +kernel) rfl (Nat.le_of_ble_eq_true rfl) (Nat.le_of_ble_eq_true rfl) dX10_init_151 dX10_init_153 (fun H locs hG hL hsz => ?_)
  refine lv_aload_n hx hb dX10_init_156 rfl (lv_at hl 0 rfl) ?_
  refine lv_bipush (v := 60) hx hb dX10_init_157 (by decide) ?_
  refine i_arr (sz := sz) (n := 19) (f := 23) (j := 23) (j2 := 24) (N' := 60) S0 hK hin hin2 hlv0 had hG hL hsz (by decide) rfl rfl rfl (by decide) (by decide) (by decide) (hts (.arrayClass .int) (by decide +kernel)) (hts (.fieldLink RX10 67 "SwarmLineModel" "swarmKeeper" "[I") (by decide +kernel)) rfl rfl (by decide +kernel) rfl (Nat.le_of_ble_eq_true rfl) (Nat.le_of_ble_eq_true rfl) dX10_init_159 dX10_init_161 (fun H locs hG hL hsz => ?_)
  refine lv_aload_n hx hb dX10_init_164 rfl (lv_at hl 0 rfl) ?_
  refine lv_bipush (v := 60) hx hb dX10_init_165 (by decide) ?_
  refine i_arr (sz := sz) (n := 20) (f := 24) (j := 24) (j2 := 25) (N' := 60) S0 hK hin hin2 hlv0 had hG hL hsz (by decide) rfl rfl rfl (by decide) (by decide) (by decide) (hts (.arrayClass .int) (by decide +kernel)) (hts (.fieldLink RX10 70 "SwarmLineModel" "swarmHour" "[I") (by decide +kernel)) rfl rfl (by decide +kernel) rfl (Nat.le_of_ble_eq_true rfl) (Nat.le_of_ble_eq_true rfl) dX10_init_167 dX10_init_169 (fun H locs hG hL hsz => ?_)
  refine lv_aload_n hx hb dX10_init_172 rfl (lv_at hl 0 rfl) ?_
  refine lv_bipush (v := 60) hx hb dX10_init_173 (by decide) ?_
  refine i_arr (sz := sz) (n := 21) (f := 25) (j := 25) (j2 := 26) (N' := 60) S0 hK hin hin2 hlv0 had hG hL hsz (by decide) rfl rfl rfl (by decide) (by decide) (by decide) (hts (.arrayClass .int) (by decide +kernel)) (hts (.fieldLink RX10 73 "SwarmLineModel" "swarmCase" "[I") (by decide +kernel)) rfl rfl (by decide +kernel) rfl (Nat.le_of_ble_eq_true rfl) (Nat.le_of_ble_eq_true rfl) dX10_init_175 dX10_init_177 (fun H locs hG hL hsz => ?_)
  refine lv_aload_n hx hb dX10_init_180 rfl (lv_at hl 0 rfl) ?_
  refine lv_bipush (v := 12) hx hb dX10_init_181 (by decide) ?_
  refine i_arr (sz := sz) (n := 22) (f := 27) (j := 26) (j2 := 28) (N' := 12) S0 hK hin hin2 hlv0 had hG hL hsz (by decide) rfl rfl rfl (by decide) (by decide) (by decide) (hts (.arrayClass .int) (by decide +kernel)) (hts (.fieldLink RX10 76 "SwarmLineModel" "keeperX" "[I") (by decide +kernel)) rfl rfl (by decide +kernel) rfl (Nat.le_of_ble_eq_true rfl) (Nat.le_of_ble_eq_true rfl) dX10_init_183 dX10_init_185 (fun H locs hG hL hsz => ?_)
  refine lv_aload_n hx hb dX10_init_188 rfl (lv_at hl 0 rfl) ?_
  refine lv_bipush (v := 12) hx hb dX10_init_189 (by decide) ?_
  refine i_arr (sz := sz) (n := 23) (f := 28) (j := 28) (j2 := 29) (N' := 12) S0 hK hin hin2 hlv0 had hG hL hsz (by decide) rfl rfl rfl (by decide) (by decide) (by decide) (hts (.arrayClass .int) (by decide +kernel)) (hts (.fieldLink RX10 79 "SwarmLineModel" "keeperY" "[I") (by decide +kernel)) rfl rfl (by decide +kernel) rfl (Nat.le_of_ble_eq_true rfl) (Nat.le_of_ble_eq_true rfl) dX10_init_191 dX10_init_193 (fun H locs hG hL hsz => ?_)
  refine lv_aload_n hx hb dX10_init_196 rfl (lv_at hl 0 rfl) ?_
  refine lv_bipush (v := 12) hx hb dX10_init_197 (by decide) ?_
  refine i_arr (sz := sz) (n := 24) (f := 29) (j := 29) (j2 := 30) (N' := 12) S0 hK hin hin2 hlv0 had hG hL hsz (by decide) rfl rfl rfl (by decide) (by decide) (by decide) (hts (.arrayClass .int) (by decide +kernel)) (hts (.fieldLink RX10 82 "SwarmLineModel" "keeperBoxes" "[I") (by decide +kernel)) rfl rfl (by decide +kernel) rfl (Nat.le_of_ble_eq_true rfl) (Nat.le_of_ble_eq_true rfl) dX10_init_199 dX10_init_201 (fun H locs hG hL hsz => ?_)
  refine lv_aload_n hx hb dX10_init_204 rfl (lv_at hl 0 rfl) ?_
  refine lv_bipush (v := 12) hx hb dX10_init_205 (by decide) ?_
  refine i_arr (sz := sz) (n := 25) (f := 30) (j := 30) (j2 := 31) (N' := 12) S0 hK hin hin2 hlv0 had hG hL hsz (by decide) rfl rfl rfl (by decide) (by decide) (by decide) (hts (.arrayClass .int) (by decide +kernel)) (hts (.fieldLink RX10 85 "SwarmLineModel" "keeperLadder" "[I") (by decide +kernel)) rfl rfl (by decide +kernel) rfl (Nat.le_of_ble_eq_true rfl) (Nat.le_of_ble_eq_true rfl) dX10_init_207 dX10_init_209 (fun H locs hG hL hsz => ?_)
  refine lv_aload_n hx hb dX10_init_212 rfl (lv_at hl 0 rfl) ?_
  refine lv_bipush (v := 12) hx hb dX10_init_213 (by decide) ?_
  refine i_arr (sz := sz) (n := 26) (f := 31) (j := 31) (j2 := 32) (N' := 12) S0 hK hin hin2 hlv0 had hG hL hsz (by decide) rfl rfl rfl (by decide) (by decide) (by decide) (hts (.arrayClass .int) (by decide +kernel)) (hts (.fieldLink RX10 88 "SwarmLineModel" "keeperPace" "[I") (by decide +kernel)) rfl rfl (by decide +kernel) rfl (Nat.le_of_ble_eq_true rfl) (Nat.le_of_ble_eq_true rfl) dX10_init_215 dX10_init_217 (fun H locs hG hL hsz => ?_)
  refine lv_aload_n hx hb dX10_init_220 rfl (lv_at hl 0 rfl) ?_
  refine lv_bipush (v := 12) hx hb dX10_init_221 (by decide) ?_
  refine i_arr (sz := sz) (n := 27) (f := 32) (j := 32) (j2 := 33) (N' := 12) S0 hK hin hin2 hlv0 had hG hL hsz (by decide) rfl rfl rfl (by decide) (by decide) (by decide) (hts (.arrayClass .int) (by decide +kernel)) (hts (.fieldLink RX10 91 "SwarmLineModel" "keeperFrom" "[I") (by decide +kernel)) rfl rfl (by decide +kernel) rfl (Nat.le_of_ble_eq_true rfl) (Nat.le_of_ble_eq_true rfl) dX10_init_223 dX10_init_225 (fun H locs hG hL hsz => ?_)
  refine lv_aload_n hx hb dX10_init_228 rfl (lv_at hl 0 rfl) ?_
  refine lv_bipush (v := 12) hx hb dX10_init_229 (by decide) ?_
  refine i_arr (sz := sz) (n := 28) (f := 33) (j := 33) (j2 := 34) (N' := 12) S0 hK hin hin2 hlv0 had hG hL hsz (by decide) rfl rfl rfl (by decide) (by decide) (by decide) (hts (.arrayClass .int) (by decide +kernel)) (hts (.fieldLink RX10 94 "SwarmLineModel" "keeperTo" "[I") (by decide +kernel)) rfl rfl (by decide +kernel) rfl (Nat.le_of_ble_eq_true rfl) (Nat.le_of_ble_eq_true rfl) dX10_init_231 dX10_init_233 (fun H locs hG hL hsz => ?_)
  refine lv_aload_n hx hb dX10_init_236 rfl (lv_at hl 0 rfl) ?_
  refine lv_bipush (v := 12) hx hb dX10_init_237 (by decide) ?_
  refine i_arr (sz := sz) (n := 29) (f := 34) (j := 34) (j2 := 35) (N' := 12) S0 hK hin hin2 hlv0 had hG hL hsz (by decide) rfl rfl rfl (by decide) (by decide) (by decide) (hts (.arrayClass .int) (by decide +kernel)) (hts (.fieldLink RX10 97 "SwarmLineModel" "keeperState" "[I") (by decide +kernel)) rfl rfl (by decide +kernel) rfl (Nat.le_of_ble_eq_true rfl) (Nat.le_of_ble_eq_true rfl) dX10_init_239 dX10_init_241 (fun H locs hG hL hsz => ?_)
  refine lv_aload_n hx hb dX10_init_244 rfl (lv_at hl 0 rfl) ?_
  refine lv_bipush (v := 12) hx hb dX10_init_245 (by decide) ?_
  refine i_arr (sz := sz) (n := 30) (f := 35) (j := 35) (j2 := 36) (N' := 12) S0 hK hin hin2 hlv0 had hG hL hsz (by decide) rfl rfl rfl (by decide) (by decide) (by decide) (hts (.arrayClass .int) (by decide +kernel)) (hts (.fieldLink RX10 100 "SwarmLineModel" "keeperGo" "[I") (by decide +kernel)) rfl rfl (by decide +kernel) rfl (Nat.le_of_ble_eq_true rfl) (Nat.le_of_ble_eq_true rfl) dX10_init_247 dX10_init_249 (fun H locs hG hL hsz => ?_)
  refine lv_aload_n hx hb dX10_init_252 rfl (lv_at hl 0 rfl) ?_
  refine lv_bipush (v := 12) hx hb dX10_init_253 (by decide) ?_
  refine i_arr (sz := sz) (n := 31) (f := 36) (j := 36) (j2 := 37) (N' := 12) S0 hK hin hin2 hlv0 had hG hL hsz (by decide) rfl rfl rfl (by decide) (by decide) (by decide) (hts (.arrayClass .int) (by decide +kernel)) (hts (.fieldLink RX10 103 "SwarmLineModel" "keeperWay" "[I") (by decide +kernel)) rfl rfl (by decide +kernel) rfl (Nat.le_of_ble_eq_true rfl) (Nat.le_of_ble_eq_true rfl) dX10_init_255 dX10_init_257 (fun H locs hG hL hsz => ?_)
  refine lv_aload_n hx hb dX10_init_260 rfl (lv_at hl 0 rfl) ?_
  refine lv_bipush (v := 12) hx hb dX10_init_261 (by decide) ?_
  refine i_arr (sz := sz) (n := 32) (f := 37) (j := 37) (j2 := 38) (N' := 12) S0 hK hin hin2 hlv0 had hG hL hsz (by decide) rfl rfl rfl (by decide) (by decide) (by decide) (hts (.arrayClass .int) (by decide +kernel)) (hts (.fieldLink RX10 106 "SwarmLineModel" "keeperCase" "[I") (by decide +kernel)) rfl rfl (by decide +kernel) rfl (Nat.le_of_ble_eq_true rfl) (Nat.le_of_ble_eq_true rfl) dX10_init_263 dX10_init_265 (fun H locs hG hL hsz => ?_)
  refine lv_aload_n hx hb dX10_init_268 rfl (lv_at hl 0 rfl) ?_
  refine lv_bipush (v := 12) hx hb dX10_init_269 (by decide) ?_
  refine i_arr (sz := sz) (n := 33) (f := 38) (j := 38) (j2 := 39) (N' := 12) S0 hK hin hin2 hlv0 had hG hL hsz (by decide) rfl rfl rfl (by decide) (by decide) (by decide) (hts (.arrayClass .int) (by decide +kernel)) (hts (.fieldLink RX10 109 "SwarmLineModel" "keeperHad" "[I") (by decide +kernel)) rfl rfl (by decide +kernel) rfl (Nat.le_of_ble_eq_true rfl) (Nat.le_of_ble_eq_true rfl) dX10_init_271 dX10_init_273 (fun H locs hG hL hsz => ?_)
  refine lv_aload_n hx hb dX10_init_276 rfl (lv_at hl 0 rfl) ?_
  refine lv_bipush (v := 60) hx hb dX10_init_277 (by decide) ?_
  refine i_arr (sz := sz) (n := 34) (f := 41) (j := 39) (j2 := 42) (N' := 60) S0 hK hin hin2 hlv0 had hG hL hsz (by decide) rfl rfl rfl (by decide) (by decide) (by decide) (hts (.arrayClass .int) (by decide +kernel)) (hts (.fieldLink RX10 112 "SwarmLineModel" "caseState" "[I") (by decide +kernel)) rfl rfl (by decide +kernel) rfl (Nat.le_of_ble_eq_true rfl) (Nat.le_of_ble_eq_true rfl) dX10_init_279 dX10_init_281 (fun H locs hG hL hsz => ?_)
  refine lv_aload_n hx hb dX10_init_284 rfl (lv_at hl 0 rfl) ?_
  refine lv_bipush (v := 60) hx hb dX10_init_285 (by decide) ?_
  refine i_arr (sz := sz) (n := 35) (f := 42) (j := 42) (j2 := 43) (N' := 60) S0 hK hin hin2 hlv0 had hG hL hsz (by decide) rfl rfl rfl (by decide) (by decide) (by decide) (hts (.arrayClass .int) (by decide +kernel)) (hts (.fieldLink RX10 115 "SwarmLineModel" "caseX" "[I") (by decide +kernel)) rfl rfl (by decide +kernel) rfl (Nat.le_of_ble_eq_true rfl) (Nat.le_of_ble_eq_true rfl) dX10_init_287 dX10_init_289 (fun H locs hG hL hsz => ?_)
  refine lv_aload_n hx hb dX10_init_292 rfl (lv_at hl 0 rfl) ?_
  refine lv_bipush (v := 60) hx hb dX10_init_293 (by decide) ?_
  refine i_arr (sz := sz) (n := 36) (f := 43) (j := 43) (j2 := 44) (N' := 60) S0 hK hin hin2 hlv0 had hG hL hsz (by decide) rfl rfl rfl (by decide) (by decide) (by decide) (hts (.arrayClass .int) (by decide +kernel)) (hts (.fieldLink RX10 118 "SwarmLineModel" "caseY" "[I") (by decide +kernel)) rfl rfl (by decide +kernel) rfl (Nat.le_of_ble_eq_true rfl) (Nat.le_of_ble_eq_true rfl) dX10_init_295 dX10_init_297 (fun H locs hG hL hsz => ?_)
  refine lv_aload_n hx hb dX10_init_300 rfl (lv_at hl 0 rfl) ?_
  refine lv_bipush (v := 60) hx hb dX10_init_301 (by decide) ?_
  refine i_arz (sz := sz) (n := 37) (f := 44) (j := 44) (j2 := 45) (N' := 60) S0 hK hin hin2 hlv0 had hG hL hsz (by decide) rfl rfl rfl (by decide) (by decide) (by decide) (hts (.arrayClass .boolean) (by decide +kernel)) (hts (.fieldLink RX10 121 "SwarmLineModel" "caseSure" "[Z") (by decide +kernel)) rfl rfl (by decide +kernel) rfl (Nat.le_of_ble_eq_true rfl) (Nat.le_of_ble_eq_true rfl) dX10_init_303 dX10_init_305 (fun H locs hG hL hsz => ?_)
  refine lv_aload_n hx hb dX10_init_308 rfl (lv_at hl 0 rfl) ?_
  refine lv_bipush (v := 60) hx hb dX10_init_309 (by decide) ?_
  refine i_arr (sz := sz) (n := 38) (f := 45) (j := 45) (j2 := 46) (N' := 60) S0 hK hin hin2 hlv0 had hG hL hsz (by decide) rfl rfl rfl (by decide) (by decide) (by decide) (hts (.arrayClass .int) (by decide +kernel)) (hts (.fieldLink RX10 125 "SwarmLineModel" "caseHigh" "[I") (by decide +kernel)) rfl rfl (by decide +kernel) rfl (Nat.le_of_ble_eq_true rfl) (Nat.le_of_ble_eq_true rfl) dX10_init_311 dX10_init_313 (fun H locs hG hL hsz => ?_)
  refine lv_aload_n hx hb dX10_init_316 rfl (lv_at hl 0 rfl) ?_
  refine lv_bipush (v := 60) hx hb dX10_init_317 (by decide) ?_
  refine i_arr (sz := sz) (n := 39) (f := 46) (j := 46) (j2 := 47) (N' := 60) S0 hK hin hin2 hlv0 had hG hL hsz (by decide) rfl rfl rfl (by decide) (by decide) (by decide) (hts (.arrayClass .int) (by decide +kernel)) (hts (.fieldLink RX10 128 "SwarmLineModel" "caseSince" "[I") (by decide +kernel)) rfl rfl (by decide +kernel) rfl (Nat.le_of_ble_eq_true rfl) (Nat.le_of_ble_eq_true rfl) dX10_init_319 dX10_init_321 (fun H locs hG hL hsz => ?_)
  refine lv_aload_n hx hb dX10_init_324 rfl (lv_at hl 0 rfl) ?_
  refine lv_bipush (v := 60) hx hb dX10_init_325 (by decide) ?_
  refine i_arr (sz := sz) (n := 40) (f := 47) (j := 47) (j2 := 48) (N' := 60) S0 hK hin hin2 hlv0 had hG hL hsz (by decide) rfl rfl rfl (by decide) (by decide) (by decide) (hts (.arrayClass .int) (by decide +kernel)) (hts (.fieldLink RX10 131 "SwarmLineModel" "caseMark" "[I") (by decide +kernel)) rfl rfl (by decide +kernel) rfl (Nat.le_of_ble_eq_true rfl) (Nat.le_of_ble_eq_true rfl) dX10_init_327 dX10_init_329 (fun H locs hG hL hsz => ?_)
  refine lv_aload_n hx hb dX10_init_332 rfl (lv_at hl 0 rfl) ?_
  refine lv_bipush (v := 60) hx hb dX10_init_333 (by decide) ?_
  refine i_arr (sz := sz) (n := 41) (f := 48) (j := 48) (j2 := 49) (N' := 60) S0 hK hin hin2 hlv0 had hG hL hsz (by decide) rfl rfl rfl (by decide) (by decide) (by decide) (hts (.arrayClass .int) (by decide +kernel)) (hts (.fieldLink RX10 134 "SwarmLineModel" "caseCalls" "[I") (by decide +kernel)) rfl rfl (by decide +kernel) rfl (Nat.le_of_ble_eq_true rfl) (Nat.le_of_ble_eq_true rfl) dX10_init_335 dX10_init_337 (fun H locs hG hL hsz => ?_)
  refine lv_aload_n hx hb dX10_init_340 rfl (lv_at hl 0 rfl) ?_
  refine lv_bipush (v := 60) hx hb dX10_init_341 (by decide) ?_
  refine i_arr (sz := sz) (n := 42) (f := 49) (j := 49) (j2 := 50) (N' := 60) S0 hK hin hin2 hlv0 had hG hL hsz (by decide) rfl rfl rfl (by decide) (by decide) (by decide) (hts (.arrayClass .int) (by decide +kernel)) (hts (.fieldLink RX10 137 "SwarmLineModel" "caseLatest" "[I") (by decide +kernel)) rfl rfl (by decide +kernel) rfl (Nat.le_of_ble_eq_true rfl) (Nat.le_of_ble_eq_true rfl) dX10_init_343 dX10_init_345 (fun H locs hG hL hsz => ?_)
  refine lv_aload_n hx hb dX10_init_348 rfl (lv_at hl 0 rfl) ?_
  refine lv_bipush (v := 60) hx hb dX10_init_349 (by decide) ?_
  refine i_arr (sz := sz) (n := 43) (f := 50) (j := 50) (j2 := 51) (N' := 60) S0 hK hin hin2 hlv0 had hG hL hsz (by decide) rfl rfl rfl (by decide) (by decide) (by decide) (hts (.arrayClass .int) (by decide +kernel)) (hts (.fieldLink RX10 140 "SwarmLineModel" "caseKeeper" "[I") (by decide +kernel)) rfl rfl (by decide +kernel) rfl (Nat.le_of_ble_eq_true rfl) (Nat.le_of_ble_eq_true rfl) dX10_init_351 dX10_init_353 (fun H locs hG hL hsz => ?_)
  refine lv_aload_n hx hb dX10_init_356 rfl (lv_at hl 0 rfl) ?_
  refine lv_bipush (v := 60) hx hb dX10_init_357 (by decide) ?_
  refine i_arr (sz := sz) (n := 44) (f := 51) (j := 51) (j2 := 52) (N' := 60) S0 hK hin hin2 hlv0 had hG hL hsz (by decide) rfl rfl rfl (by decide) (by decide) (by decide) (hts (.arrayClass .int) (by decide +kernel)) (hts (.fieldLink RX10 143 "SwarmLineModel" "caseSwarm" "[I") (by decide +kernel)) rfl rfl (by decide +kernel) rfl (Nat.le_of_ble_eq_true rfl) (Nat.le_of_ble_eq_true rfl) dX10_init_359 dX10_init_361 (fun H locs hG hL hsz => ?_)
  refine lv_aload_n hx hb dX10_init_364 rfl (lv_at hl 0 rfl) ?_
  refine lv_bipush (v := 20) hx hb dX10_init_365 (by decide) ?_
  refine i_arr (sz := sz) (n := 45) (f := 54) (j := 52) (j2 := 55) (N' := 20) S0 hK hin hin2 hlv0 had hG hL hsz (by decide) rfl rfl rfl (by decide) (by decide) (by decide) (hts (.arrayClass .int) (by decide +kernel)) (hts (.fieldLink RX10 146 "SwarmLineModel" "lineDistrict" "[I") (by decide +kernel)) rfl rfl (by decide +kernel) rfl (Nat.le_of_ble_eq_true rfl) (Nat.le_of_ble_eq_true rfl) dX10_init_367 dX10_init_369 (fun H locs hG hL hsz => ?_)
  refine lv_aload_n hx hb dX10_init_372 rfl (lv_at hl 0 rfl) ?_
  refine lv_bipush (v := 20) hx hb dX10_init_373 (by decide) ?_
  refine i_arr (sz := sz) (n := 46) (f := 55) (j := 55) (j2 := 56) (N' := 20) S0 hK hin hin2 hlv0 had hG hL hsz (by decide) rfl rfl rfl (by decide) (by decide) (by decide) (hts (.arrayClass .int) (by decide +kernel)) (hts (.fieldLink RX10 149 "SwarmLineModel" "lineMany" "[I") (by decide +kernel)) rfl rfl (by decide +kernel) rfl (Nat.le_of_ble_eq_true rfl) (Nat.le_of_ble_eq_true rfl) dX10_init_375 dX10_init_377 (fun H locs hG hL hsz => ?_)
  refine lv_aload_n hx hb dX10_init_380 rfl (lv_at hl 0 rfl) ?_
  refine lv_sipush (v := 240) hx hb dX10_init_381 (by decide) ?_
  refine i_arr (sz := sz) (n := 47) (f := 56) (j := 56) (j2 := 57) (N' := 240) S0 hK hin hin2 hlv0 had hG hL hsz (by decide) rfl rfl rfl (by decide) (by decide) (by decide) (hts (.arrayClass .int) (by decide +kernel)) (hts (.fieldLink RX10 152 "SwarmLineModel" "lineKeeper" "[I") (by decide +kernel)) rfl rfl (by decide +kernel) rfl (Nat.le_of_ble_eq_true rfl) (Nat.le_of_ble_eq_true rfl) dX10_init_384 dX10_init_386 (fun H locs hG hL hsz => ?_)
  refine lv_aload_n hx hb dX10_init_389 rfl (lv_at hl 0 rfl) ?_
  refine lv_bipush (v := 12) hx hb dX10_init_390 (by decide) ?_
  refine i_arr (sz := sz) (n := 48) (f := 58) (j := 57) (j2 := 59) (N' := 12) S0 hK hin hin2 hlv0 had hG hL hsz (by decide) rfl rfl rfl (by decide) (by decide) (by decide) (hts (.arrayClass .int) (by decide +kernel)) (hts (.fieldLink RX10 155 "SwarmLineModel" "askedKeeper" "[I") (by decide +kernel)) rfl rfl (by decide +kernel) rfl (Nat.le_of_ble_eq_true rfl) (Nat.le_of_ble_eq_true rfl) dX10_init_392 dX10_init_394 (fun H locs hG hL hsz => ?_)
  refine lv_aload_n hx hb dX10_init_397 rfl (lv_at hl 0 rfl) ?_
  refine lv_bipush (v := 12) hx hb dX10_init_398 (by decide) ?_
  refine i_arr (sz := sz) (n := 49) (f := 59) (j := 59) (j2 := 60) (N' := 12) S0 hK hin hin2 hlv0 had hG hL hsz (by decide) rfl rfl rfl (by decide) (by decide) (by decide) (hts (.arrayClass .int) (by decide +kernel)) (hts (.fieldLink RX10 158 "SwarmLineModel" "askedAgainst" "[I") (by decide +kernel)) rfl rfl (by decide +kernel) rfl (Nat.le_of_ble_eq_true rfl) (Nat.le_of_ble_eq_true rfl) dX10_init_400 dX10_init_402 (fun H locs hG hL hsz => ?_)
  refine lv_aload_n hx hb dX10_init_405 rfl (lv_at hl 0 rfl) ?_
  refine lv_sipush (v := 400) hx hb dX10_init_406 (by decide) ?_
  refine i_arr (sz := sz) (n := 50) (f := 60) (j := 60) (j2 := 61) (N' := 400) S0 hK hin hin2 hlv0 had hG hL hsz (by decide) rfl rfl rfl (by decide) (by decide) (by decide) (hts (.arrayClass .int) (by decide +kernel)) (hts (.fieldLink RX10 161 "SwarmLineModel" "tape" "[I") (by decide +kernel)) rfl rfl (by decide +kernel) rfl (Nat.le_of_ble_eq_true rfl) (Nat.le_of_ble_eq_true rfl) dX10_init_409 dX10_init_411 (fun H locs hG hL hsz => ?_)
  refine lv_aload_n hx hb dX10_init_414 rfl (lv_at hl 0 rfl) ?_
  refine lv_iconst (v := (-1)) hx hb dX10_init_415 (by decide) ?_
  refine g_putz S0 hK hG hL hin tyX10 tyX10_ok nmX10 0 lvI_0 (ceI_0 ..) rfl 64 (by decide) (hts (.fieldLink RX10 164 "SwarmLineModel" "fault" "I") (by decide +kernel)) (fun _ h9 => h9) rfl (ty := .int) (by decide +kernel) rfl rfl (Nat.le_of_ble_eq_true rfl) dX10_init_416 (fun H1 locs hG hL hz1 => ?_)
  have hG : gW D Hb (lvI lv0 51) ad (ceI ce0 ad cI cZ sI 61) H1 := by { have e9 := ceI_i ce0 ad cI cZ (fun _ => 0) 61 ((-1)) (fs := (mT 61 ad (fun _ => 0)).set 64 (.int ((-1)))) rfl; rw [e9] at hG; exact hG }
  have hsz : H1.size = sz + 51 := by rw [hz1, hsz]
  refine lv_aload_n hx hb dX10_init_419 rfl (lv_at hl 0 rfl) ?_
  refine lv_bipush (v := 6) hx hb dX10_init_420 (by decide) ?_
  refine i_arr (sz := sz) (n := 51) (f := 65) (j := 61) (j2 := 66) (N' := 6) S0 hK hin hin2 hlv0 had hG hL hsz (by decide) rfl rfl rfl (by decide) (by decide) (by decide) (hts (.arrayClass .int) (by decide +kernel)) (hts (.fieldLink RX10 168 "SwarmLineModel" "fact" "[I") (by decide +kernel)) rfl rfl (by decide +kernel) rfl (Nat.le_of_ble_eq_true rfl) (Nat.le_of_ble_eq_true rfl) dX10_init_422 dX10_init_424 (fun H locs hG hL hsz => ?_)
  refine lv_aload_n hx hb dX10_init_427 rfl (lv_at hl 0 rfl) ?_
  refine lv_iconst (v := 5) hx hb dX10_init_428 (by decide) ?_
  refine i_arz (sz := sz) (n := 52) (f := 66) (j := 66) (j2 := 67) (N' := 5) S0 hK hin hin2 hlv0 had hG hL hsz (by decide) rfl rfl rfl (by decide) (by decide) (by decide) (hts (.arrayClass .boolean) (by decide +kernel)) (hts (.fieldLink RX10 171 "SwarmLineModel" "has" "[Z") (by decide +kernel)) rfl rfl (by decide +kernel) rfl (Nat.le_of_ble_eq_true rfl) (Nat.le_of_ble_eq_true rfl) dX10_init_429 dX10_init_431 (fun H locs hG hL hsz => ?_)
  refine lv_aload_n hx hb dX10_init_434 rfl (lv_at hl 0 rfl) ?_
  refine lv_sipush (v := 4096) hx hb dX10_init_435 (by decide) ?_
  refine i_arr (sz := sz) (n := 53) (f := 67) (j := 67) (j2 := 68) (N' := 4096) S0 hK hin hin2 hlv0 had hG hL hsz (by decide) rfl rfl rfl (by decide) (by decide) (by decide) (hts (.arrayClass .int) (by decide +kernel)) (hts (.fieldLink RX10 174 "SwarmLineModel" "table" "[I") (by decide +kernel)) rfl rfl (by decide +kernel) rfl (Nat.le_of_ble_eq_true rfl) (Nat.le_of_ble_eq_true rfl) dX10_init_438 dX10_init_440 (fun H locs hG hL hsz => ?_)
  refine lv_aload_n hx hb dX10_init_443 rfl (lv_at hl 0 rfl) ?_
  refine lv_bipush (v := 8) hx hb dX10_init_444 (by decide) ?_
  refine i_arr (sz := sz) (n := 54) (f := 68) (j := 68) (j2 := 69) (N' := 8) S0 hK hin hin2 hlv0 had hG hL hsz (by decide) rfl rfl rfl (by decide) (by decide) (by decide) (hts (.arrayClass .int) (by decide +kernel)) (hts (.fieldLink RX10 177 "SwarmLineModel" "openCase" "[I") (by decide +kernel)) rfl rfl (by decide +kernel) rfl (Nat.le_of_ble_eq_true rfl) (Nat.le_of_ble_eq_true rfl) dX10_init_446 dX10_init_448 (fun H locs hG hL hsz => ?_)
  rw [ceI_69] at hG
  refine W.cs (cells' := 55) (slots' := 6547) rfl rfl ?_
  have hlv : lM (lvI lv0 55) := lvI_M
  have S : mX p0 m0 c0 cX10_init 2 s0 _ wsX10_init D cI cZ cB cO cR cJ (lvI lv0 55) := ⟨S0, hK, hin, hlv⟩
  refine lv_iconst (v := 0) hx hb dX10_init_451 (by decide) ?_
  refine lv_istore_n (lv' := [(1, .int 0), (0, .ref (ad 0))]) hx hb dX10_init_452 rfl hl (by decide) rfl (fun ls hl => ?_)
  have LP : ∀ (n : Nat) (i : Nat) (x : Int32) (rv : Nat → Nat → Int32) (ex : x = nI i) (hi : i ≤ 31) (hn : 32 ≤ i + n) (hR : rv = rI i), ∀ (H : Heap) (locs : List Loc), gW D Hb (lvI lv0 55) ad (mJ ce0 ad cI cZ sI rv) H → gL Hb locs → ∀ (ls : Array Slot), lv_has ls 2 [(0, .ref (ad 0)), (1, .int x)] → W p0 l e0 (headSpec wsX10_init { frames := 1, cells := 55, slots := 6547, locals := 12 }).room s0 m0 ([.ref (ad 0)] : List Value).toArray below meth c0 H locs 55 6547 (MQ below (fun _ _ oc t => oc = .returned none ∧ gW D Hb (lvI lv0 55) ad (mJ ce0 ad cI cZ sI (rI 31)) t.heap : Array Value → State → Outcome → State → Prop) ([.ref (ad 0)] : List Value).toArray s0 55 6547 (gA Hb)) (F0 m0 453 ls []) := by
    intro n
    induction n with
    | zero => intro i x rv ex hi hn hR; exact absurd hn (by omega)
    | succ n ih =>
      intro i x rv ex hi hn hR H locs hG hL ls hl
      have hii : Int32.toNatClampNeg x = i := by { rw [ex]; exact ix_nI (by omega) }
      refine lv_iload_n hx hb dX10_init_453 rfl (lv_at hl 1 rfl) ?_
      refine lv_bipush (v := 31) hx hb dX10_init_454 (by decide) ?_
      refine lv_icmp_ge (tgt := 497) hx hb dX10_init_456 (by decide) (fun c456 => ?_) (fun c456 => ?_)
      ·
        have hE : i = 31 := by { have h := (nle (by omega) (by omega)).mp (ex ▸ c456 : nI 31 ≤ nI i); omega }
        exact W.vret hx hb hr (fun t ht _ => ⟨rfl, by rw [ht, ← hE, ← hR]; exact hG⟩) hL dX10_init_497 hlocks
      ·
        have hlt : i < 31 := by { have h := (not_congr (nle (by omega) (by omega))).mp (ex ▸ c456 : ¬ nI 31 ≤ nI i); omega }
        refine lv_aload_n hx hb dX10_init_459 rfl (lv_at hl 0 rfl) ?_
        refine m_ga S hG 2 rfl (hts (.fieldLink RX10 7 "SwarmLineModel" "warmth" "[I") (by decide +kernel)) dX10_init_460 ?_
        refine lv_iload_n hx hb dX10_init_463 rfl (lv_at hl 1 rfl) ?_
        refine lv_bipush (v := 15) hx hb dX10_init_464 (by decide) ?_
        refine m_stj (j := i) S hG hL 2 rfl hii (show vp_in x 31 from by rw [ex]; exact vp_in_i (by omega) (by omega)) dX10_init_466 (fun H locs hG hL => ?_)
        refine lv_aload_n hx hb dX10_init_467 rfl (lv_at hl 0 rfl) ?_
        refine m_ga S hG 3 rfl (hts (.fieldLink RX10 13 "SwarmLineModel" "bloom" "[I") (by decide +kernel)) dX10_init_468 ?_
        refine lv_iload_n hx hb dX10_init_471 rfl (lv_at hl 1 rfl) ?_
        refine lv_bipush (v := 50) hx hb dX10_init_472 (by decide) ?_
        refine m_stj (j := i) S hG hL 3 rfl hii (show vp_in x 31 from by rw [ex]; exact vp_in_i (by omega) (by omega)) dX10_init_474 (fun H locs hG hL => ?_)
        refine lv_aload_n hx hb dX10_init_475 rfl (lv_at hl 0 rfl) ?_
        refine m_ga S hG 4 rfl (hts (.fieldLink RX10 16 "SwarmLineModel" "foreLeast" "[I") (by decide +kernel)) dX10_init_476 ?_
        refine lv_iload_n hx hb dX10_init_479 rfl (lv_at hl 1 rfl) ?_
        refine lv_bipush (v := (-20)) hx hb dX10_init_480 (by decide) ?_
        refine m_stj (j := i) S hG hL 4 rfl hii (show vp_in x 31 from by rw [ex]; exact vp_in_i (by omega) (by omega)) dX10_init_482 (fun H locs hG hL => ?_)
        refine lv_aload_n hx hb dX10_init_483 rfl (lv_at hl 0 rfl) ?_
        refine m_ga S hG 5 rfl (hts (.fieldLink RX10 19 "SwarmLineModel" "foreMost" "[I") (by decide +kernel)) dX10_init_484 ?_
        refine lv_iload_n hx hb dX10_init_487 rfl (lv_at hl 1 rfl) ?_
        refine lv_bipush (v := 40) hx hb dX10_init_488 (by decide) ?_
        refine m_stj (j := i) S hG hL 5 rfl hii (show vp_in x 31 from by rw [ex]; exact vp_in_i (by omega) (by omega)) dX10_init_490 (fun H locs hG hL => ?_)
        refine lv_iinc (v := x + 1) (lv' := [(1, .int (x + 1)), (0, .ref (ad 0))]) hx hb dX10_init_491 hl (k := 1) rfl (by rfl) (by decide) rfl (fun ls hl => ?_)
        refine lv_goto (tgt := 453) hx hb dX10_init_494 (by decide) ?_
        exact ih  (i + 1) (x + 1) (up2 (up2 (up2 (up2 rv 2 i 15) 3 i 50) 4 i (-20)) 5 i 40) (by rw [ex]; exact nI_1 i) (by omega) (by omega) (by rw [hR]; rfl) _ _ hG hL _ (lv_sub hl [1, 0] rfl)
  exact LP 32 0 0 z0 (rfl) (by omega) (by omega) (rfl) _ _ hG hL _ (lv_sub hl [1, 0] rfl)
