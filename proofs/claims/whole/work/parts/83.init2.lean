theorem iK_a {i : Nat} (h : i < 17) : iK (130 + i) = 18 + i := by
  unfold iK
  rw [if_pos (by omega)]
  omega
theorem iK_b {i : Nat} (h : i < 17) : iK (150 + i) = 38 + i := by
  unfold iK
  rw [if_neg (by omega), if_pos (by omega)]
  omega
def tP (a b c j : Nat) : Prop := j = a ∨ j = b ∨ (c ≤ j ∧ j < c + 17)
theorem lvA_n {l0 : Nat → Prop} {k : Nat} (h : 100 < k) : ¬ lvA l0 k := fun z => by
  rcases z with ⟨z, -⟩ | z <;> omega

set_option maxHeartbeats 2000000 in
set_option maxRecDepth 100000 in
theorem c_X8_init110 {l : Launch} {D : va_G} {cI cZ cB cO cR cJ : ClassId} {Hb : Heap} {K : kTx} {lv : Nat → Prop} {ad : Nat → Nat} {ce : Nat → va_E} (s9 : Nat) (had : ∀ k, 100 < k → ad k = s9 + iK k) (ho : lv 110) (hn : ∀ j, tP 119 121 130 j → ¬ lv j) (he : ce 110 = .inr (9, [.null, .null, .int 0])) : Met l yX8_init wsX8_init { frames := 1, cells := 19, slots := 238, locals := 40 } (va_Pc [.ref (ad 110)] (kPz D (tyL cI cZ cB cO cR cJ) Hb K lv ad ce (s9 + 17))) (gQz D Hb (fun j => lv j ∨ tP 119 121 130 j) ad (va_up (va_up (fun k => if k = 119 then aRf cR 17 (kRf ad 130 17) else if 130 ≤ k ∧ k < 130 + 17 then .inl (cI, 12, .inl (fun _ => 0)) else ce k) 121 (.inl (cI, 17, .inl (fun _ => 0)))) 110 (.inr (9, [.ref (ad 119), .ref (ad 121), .int 0]))) (s9 + 36)) 19 238 (gA Hb) := by
  refine Met.ofW (cc := cX8_init) (maxL := 1) (ret := none) (by decide) rfl ?_
  intro p0 e0 s0 m0 args below meth c0 s₁ B hml hv
  obtain ⟨rfl, hsz, ⟨hG, hK, hE⟩, hOA⟩ := hv
  have hx := B.exec
  have hb := B.bytes
  have hr := B.returns
  have hts := atoms_spec (ws := wsX8_init) B.pre
  have hown : s0.vm.findClass RX8 = some m0.cls := findClass_of_methodNamed B.named
  have hlocks := B.notSynchronized
  have hin2 : meth.name = "<init>" ∨ True := Or.inr trivial
  have S : kX p0 m0 c0 cX8_init 1 s0 _ wsX8_init RX8 D (tyL cI cZ cB cO cR cJ) Hb K := ⟨⟨hx, hb, hml, hown, hts⟩, hK, hE⟩
  obtain ⟨-, hNm, -, -, -, -, -, -, -, hEm, -, -, -, -, -⟩ := hE
  have hL : gL Hb [] := gL.nil
  have hH := hG.2.2.2.2
  have hl := lv_entry ([.ref (ad 110)]) (n := 1) (Nat.le_of_ble_eq_true rfl)
  rw [lg_entry_eq]
  generalize (lg_sl ([.ref (ad 110)]) ++ List.replicate (1 - (lg_sl ([.ref (ad 110)])).length) Slot.unset).toArray = ls at hl ⊢
  have hl : lv_has ls 1 [(0, .ref (ad 110))] := hl
  have hin3 : meth.name = "<init>" := (name_of_methodNamed B.named B.method).1
  refine lv_aload_n hx hb dX8_init_0 rfl (lv_at hl 0 rfl) ?_
  refine W.objInit hx hb hown (hts (.methodLink RX8 3 objectInit) (by decide +kernel)) (hts (.instanceMethod objectInit) (by decide +kernel)) (hts (.code objectInit ⟨#[0xb1]⟩ 1 none) (by decide +kernel)) rfl (by rw [hml]; exact hl.1) rfl dX8_init_1 (Nat.le_of_ble_eq_true rfl) (Nat.le_of_ble_eq_true rfl) ?_
  refine W.eq (g2 := F0 m0 4 ls []) rfl ?_
  generalize hHe : s0.heap = H at hG hsz hH ⊢
  refine lv_aload_n hx hb dX8_init_4 rfl (lv_at hl 0 rfl) ?_
  refine lv_bipush (v := 17) hx hb dX8_init_5 (by decide) ?_
  refine lv_bipush (v := 12) hx hb dX8_init_7 (by decide) ?_
  refine g_mna S.1 hK hG (hts (.classLink RX8 11 "[[I") (by decide +kernel)) hOA (hts (.arrayClass .int) (by decide +kernel)) 119 130 (by rw [had 119 (by decide), hsz]; rfl) (fun i hi => by rw [had (130 + i) (by omega), hsz, iK_a hi]; omega) (fun i hi => by omega) (Nat.le_of_ble_eq_true rfl) (Nat.le_of_ble_eq_true rfl) dX8_init_9 (fun k hk => ⟨fun z => hn k (Or.inl z) hk, fun z => hn k (Or.inr (Or.inr z)) hk⟩) (fun H hG hz9 => ?_)
  have hsz : Array.size H = s9 + 35 := by rw [hz9, hsz]
  refine g_putF (ref := RX8) (C := RX8) (T := TX8) (N := 3) (ci := 9) (ty := .array (.array .int)) (v := .ref (ad 119)) S.1 hK hG hL (fun w h => List.mem_cons_of_mem _ (List.mem_append_right _ h)) tyX8 tyX8_ok nmX8 110 (Or.inl ho) he rfl 0 (by decide) (hts (.fieldLink RX8 13 "SwarmLine$Turns" "rows" "[[I") (by decide +kernel)) (fun _ h => h) rfl hin3 rfl (by decide +kernel) rfl rfl (Nat.le_of_ble_eq_true rfl) dX8_init_13 (fun H locs hG hL hz9 => ?_)
  have hsz : Array.size H = s9 + 35 := by rw [hz9, hsz]
  refine lv_aload_n hx hb dX8_init_16 rfl (lv_at hl 0 rfl) ?_
  refine lv_bipush (v := 17) hx hb dX8_init_17 (by decide) ?_
  refine g_newa (atype := .int) (cA := cI) (N' := 17) (a0 := (17, .inl (fun _ => 0))) S.1 hK hG (hts (.arrayClass .int) (by decide +kernel)) 0 rfl 121 (fun z => by { rcases z with z | z; exact hn 121 (Or.inr (Or.inl rfl)) z; omega }) (by rw [had 121 (by decide), hsz]; rfl) (fun _ => rfl) (by decide) (by decide) (by decide) (Nat.le_of_ble_eq_true rfl) (Nat.le_of_ble_eq_true rfl) dX8_init_19 (fun H hG hz9 => ?_)
  have hsz : Array.size H = s9 + 36 := by rw [hz9, hsz]
  refine g_putF (ref := RX8) (C := RX8) (T := TX8) (N := 3) (ci := 9) (ty := .array .int) (v := .ref (ad 121)) S.1 hK hG hL (fun w h => List.mem_cons_of_mem _ (List.mem_append_right _ h)) tyX8 tyX8_ok nmX8 110 (Or.inl (Or.inl ho)) rfl rfl 1 (by decide) (hts (.fieldLink RX8 16 "SwarmLine$Turns" "sizes" "[I") (by decide +kernel)) (fun _ h => h) rfl hin3 rfl (by decide +kernel) rfl rfl (Nat.le_of_ble_eq_true rfl) dX8_init_21 (fun H locs hG hL hz9 => ?_)
  have hsz : Array.size H = s9 + 36 := by rw [hz9, hsz]
  refine lv_aload_n hx hb dX8_init_24 rfl (lv_at hl 0 rfl) ?_
  refine lv_iconst (v := 0) hx hb dX8_init_25 (by decide) ?_
  refine g_putz (ref := RX8) (C := RX8) (T := TX8) (N := 3) (ci := 9) (ty := .int) (v := .int 0) S.1 hK hG hL (fun w h => List.mem_cons_of_mem _ (List.mem_append_right _ h)) tyX8 tyX8_ok nmX8 110 (Or.inl (Or.inl ho)) rfl rfl 2 (by decide) (hts (.fieldLink RX8 20 "SwarmLine$Turns" "lines" "I") (by decide +kernel)) (fun _ h => h) rfl (by decide +kernel) rfl rfl (Nat.le_of_ble_eq_true rfl) dX8_init_26 (fun H locs hG hL hz9 => ?_)
  have hsz : Array.size H = s9 + 36 := by rw [hz9, hsz]
  refine z_vret S.1 hr hlocks hG hL hsz (fun j h => ?_) (fun j _ => ?_) dX8_init_29 (Nat.le_of_ble_eq_true rfl) (Nat.le_of_ble_eq_true rfl)
  · rcases h with h | h | h | h
    · exact Or.inl (Or.inl h)
    · exact Or.inl (Or.inr (Or.inl h))
    · exact Or.inr h
    · exact Or.inl (Or.inr (Or.inr h))
  · by_cases h1 : j = 110
    · subst h1; rfl
    by_cases h2 : j = 121
    · subst h2; rfl
    simp only [va_up, h1, h2, if_false]

set_option maxHeartbeats 2000000 in
set_option maxRecDepth 100000 in
theorem c_X8_init111 {l : Launch} {D : va_G} {cI cZ cB cO cR cJ : ClassId} {Hb : Heap} {K : kTx} {lv : Nat → Prop} {ad : Nat → Nat} {ce : Nat → va_E} (s9 : Nat) (had : ∀ k, 100 < k → ad k = s9 + iK k) (ho : lv 111) (hn : ∀ j, tP 120 122 150 j → ¬ lv j) (he : ce 111 = .inr (9, [.null, .null, .int 0])) : Met l yX8_init wsX8_init { frames := 1, cells := 19, slots := 238, locals := 40 } (va_Pc [.ref (ad 111)] (kPz D (tyL cI cZ cB cO cR cJ) Hb K lv ad ce (s9 + 37))) (gQz D Hb (fun j => lv j ∨ tP 120 122 150 j) ad (va_up (va_up (fun k => if k = 120 then aRf cR 17 (kRf ad 150 17) else if 150 ≤ k ∧ k < 150 + 17 then .inl (cI, 12, .inl (fun _ => 0)) else ce k) 122 (.inl (cI, 17, .inl (fun _ => 0)))) 111 (.inr (9, [.ref (ad 120), .ref (ad 122), .int 0]))) (s9 + 56)) 19 238 (gA Hb) := by
  refine Met.ofW (cc := cX8_init) (maxL := 1) (ret := none) (by decide) rfl ?_
  intro p0 e0 s0 m0 args below meth c0 s₁ B hml hv
  obtain ⟨rfl, hsz, ⟨hG, hK, hE⟩, hOA⟩ := hv
  have hx := B.exec
  have hb := B.bytes
  have hr := B.returns
  have hts := atoms_spec (ws := wsX8_init) B.pre
  have hown : s0.vm.findClass RX8 = some m0.cls := findClass_of_methodNamed B.named
  have hlocks := B.notSynchronized
  have hin2 : meth.name = "<init>" ∨ True := Or.inr trivial
  have S : kX p0 m0 c0 cX8_init 1 s0 _ wsX8_init RX8 D (tyL cI cZ cB cO cR cJ) Hb K := ⟨⟨hx, hb, hml, hown, hts⟩, hK, hE⟩
  obtain ⟨-, hNm, -, -, -, -, -, -, -, hEm, -, -, -, -, -⟩ := hE
  have hL : gL Hb [] := gL.nil
  have hH := hG.2.2.2.2
  have hl := lv_entry ([.ref (ad 111)]) (n := 1) (Nat.le_of_ble_eq_true rfl)
  rw [lg_entry_eq]
  generalize (lg_sl ([.ref (ad 111)]) ++ List.replicate (1 - (lg_sl ([.ref (ad 111)])).length) Slot.unset).toArray = ls at hl ⊢
  have hl : lv_has ls 1 [(0, .ref (ad 111))] := hl
  have hin3 : meth.name = "<init>" := (name_of_methodNamed B.named B.method).1
  refine lv_aload_n hx hb dX8_init_0 rfl (lv_at hl 0 rfl) ?_
  refine W.objInit hx hb hown (hts (.methodLink RX8 3 objectInit) (by decide +kernel)) (hts (.instanceMethod objectInit) (by decide +kernel)) (hts (.code objectInit ⟨#[0xb1]⟩ 1 none) (by decide +kernel)) rfl (by rw [hml]; exact hl.1) rfl dX8_init_1 (Nat.le_of_ble_eq_true rfl) (Nat.le_of_ble_eq_true rfl) ?_
  refine W.eq (g2 := F0 m0 4 ls []) rfl ?_
  generalize hHe : s0.heap = H at hG hsz hH ⊢
  refine lv_aload_n hx hb dX8_init_4 rfl (lv_at hl 0 rfl) ?_
  refine lv_bipush (v := 17) hx hb dX8_init_5 (by decide) ?_
  refine lv_bipush (v := 12) hx hb dX8_init_7 (by decide) ?_
  refine g_mna S.1 hK hG (hts (.classLink RX8 11 "[[I") (by decide +kernel)) hOA (hts (.arrayClass .int) (by decide +kernel)) 120 150 (by rw [had 120 (by decide), hsz]; rfl) (fun i hi => by rw [had (150 + i) (by omega), hsz, iK_b hi]; omega) (fun i hi => by omega) (Nat.le_of_ble_eq_true rfl) (Nat.le_of_ble_eq_true rfl) dX8_init_9 (fun k hk => ⟨fun z => hn k (Or.inl z) hk, fun z => hn k (Or.inr (Or.inr z)) hk⟩) (fun H hG hz9 => ?_)
  have hsz : Array.size H = s9 + 55 := by rw [hz9, hsz]
  refine g_putF (ref := RX8) (C := RX8) (T := TX8) (N := 3) (ci := 9) (ty := .array (.array .int)) (v := .ref (ad 120)) S.1 hK hG hL (fun w h => List.mem_cons_of_mem _ (List.mem_append_right _ h)) tyX8 tyX8_ok nmX8 111 (Or.inl ho) he rfl 0 (by decide) (hts (.fieldLink RX8 13 "SwarmLine$Turns" "rows" "[[I") (by decide +kernel)) (fun _ h => h) rfl hin3 rfl (by decide +kernel) rfl rfl (Nat.le_of_ble_eq_true rfl) dX8_init_13 (fun H locs hG hL hz9 => ?_)
  have hsz : Array.size H = s9 + 55 := by rw [hz9, hsz]
  refine lv_aload_n hx hb dX8_init_16 rfl (lv_at hl 0 rfl) ?_
  refine lv_bipush (v := 17) hx hb dX8_init_17 (by decide) ?_
  refine g_newa (atype := .int) (cA := cI) (N' := 17) (a0 := (17, .inl (fun _ => 0))) S.1 hK hG (hts (.arrayClass .int) (by decide +kernel)) 0 rfl 122 (fun z => by { rcases z with z | z; exact hn 122 (Or.inr (Or.inl rfl)) z; omega }) (by rw [had 122 (by decide), hsz]; rfl) (fun _ => rfl) (by decide) (by decide) (by decide) (Nat.le_of_ble_eq_true rfl) (Nat.le_of_ble_eq_true rfl) dX8_init_19 (fun H hG hz9 => ?_)
  have hsz : Array.size H = s9 + 56 := by rw [hz9, hsz]
  refine g_putF (ref := RX8) (C := RX8) (T := TX8) (N := 3) (ci := 9) (ty := .array .int) (v := .ref (ad 122)) S.1 hK hG hL (fun w h => List.mem_cons_of_mem _ (List.mem_append_right _ h)) tyX8 tyX8_ok nmX8 111 (Or.inl (Or.inl ho)) rfl rfl 1 (by decide) (hts (.fieldLink RX8 16 "SwarmLine$Turns" "sizes" "[I") (by decide +kernel)) (fun _ h => h) rfl hin3 rfl (by decide +kernel) rfl rfl (Nat.le_of_ble_eq_true rfl) dX8_init_21 (fun H locs hG hL hz9 => ?_)
  have hsz : Array.size H = s9 + 56 := by rw [hz9, hsz]
  refine lv_aload_n hx hb dX8_init_24 rfl (lv_at hl 0 rfl) ?_
  refine lv_iconst (v := 0) hx hb dX8_init_25 (by decide) ?_
  refine g_putz (ref := RX8) (C := RX8) (T := TX8) (N := 3) (ci := 9) (ty := .int) (v := .int 0) S.1 hK hG hL (fun w h => List.mem_cons_of_mem _ (List.mem_append_right _ h)) tyX8 tyX8_ok nmX8 111 (Or.inl (Or.inl ho)) rfl rfl 2 (by decide) (hts (.fieldLink RX8 20 "SwarmLine$Turns" "lines" "I") (by decide +kernel)) (fun _ h => h) rfl (by decide +kernel) rfl rfl (Nat.le_of_ble_eq_true rfl) dX8_init_26 (fun H locs hG hL hz9 => ?_)
  have hsz : Array.size H = s9 + 56 := by rw [hz9, hsz]
  refine z_vret S.1 hr hlocks hG hL hsz (fun j h => ?_) (fun j _ => ?_) dX8_init_29 (Nat.le_of_ble_eq_true rfl) (Nat.le_of_ble_eq_true rfl)
  · rcases h with h | h | h | h
    · exact Or.inl (Or.inl h)
    · exact Or.inl (Or.inr (Or.inl h))
    · exact Or.inr h
    · exact Or.inl (Or.inr (Or.inr h))
  · by_cases h1 : j = 111
    · subst h1; rfl
    by_cases h2 : j = 122
    · subst h2; rfl
    simp only [va_up, h1, h2, if_false]

set_option maxHeartbeats 2000000 in
set_option maxRecDepth 100000 in
theorem c_Jxa1e45_init_da8c8 {l : Launch} {D : va_G} {cI cZ cB cO cR cJ : ClassId} {Hb : Heap} {K : kTx} {lv : Nat → Prop} {ad : Nat → Nat} {ce : Nat → va_E} (k n9 : Nat) (ho : lv k)  : Met l yJxa1e45_init_da8c8 wsJxa1e45_init_da8c8 { frames := 1, cells := 0, slots := 0, locals := 33 } (va_Pc [.ref (ad k)] (kPz D (tyL cI cZ cB cO cR cJ) Hb K lv ad ce n9)) (gQz D Hb lv ad ce n9) 0 0 (gA Hb) := by
  refine Met.ofW (cc := cJxa1e45_init_da8c8) (maxL := 1) (ret := none) (by decide) rfl ?_
  intro p0 e0 s0 m0 args below meth c0 s₁ B hml hv
  obtain ⟨rfl, hsz, ⟨hG, hK, hE⟩, hOA⟩ := hv
  have hx := B.exec
  have hb := B.bytes
  have hr := B.returns
  have hts := atoms_spec (ws := wsJxa1e45_init_da8c8) B.pre
  have hown : s0.vm.findClass RJxa1e45 = some m0.cls := findClass_of_methodNamed B.named
  have hlocks := B.notSynchronized
  have hin2 : meth.name = "<init>" ∨ True := Or.inr trivial
  have S : kX p0 m0 c0 cJxa1e45_init_da8c8 1 s0 _ wsJxa1e45_init_da8c8 RJxa1e45 D (tyL cI cZ cB cO cR cJ) Hb K := ⟨⟨hx, hb, hml, hown, hts⟩, hK, hE⟩
  obtain ⟨-, hNm, -, -, -, -, -, -, -, hEm, -, -, -, -, -⟩ := hE
  have hL : gL Hb [] := gL.nil
  have hH := hG.2.2.2.2
  have hl := lv_entry ([.ref (ad k)]) (n := 1) (Nat.le_of_ble_eq_true rfl)
  rw [lg_entry_eq]
  generalize (lg_sl ([.ref (ad k)]) ++ List.replicate (1 - (lg_sl ([.ref (ad k)])).length) Slot.unset).toArray = ls at hl ⊢
  have hl : lv_has ls 1 [(0, .ref (ad k))] := hl
  refine lv_aload_n hx hb dJxa1e45_init_da8c8_0 rfl (lv_at hl 0 rfl) ?_
  refine W.objInit hx hb hown (hts (.methodLink RJxa1e45 1 objectInit) (by decide +kernel)) (hts (.instanceMethod objectInit) (by decide +kernel)) (hts (.code objectInit ⟨#[0xb1]⟩ 1 none) (by decide +kernel)) rfl (by rw [hml]; exact hl.1) rfl dJxa1e45_init_da8c8_1 (Nat.le_of_ble_eq_true rfl) (Nat.le_of_ble_eq_true rfl) ?_
  refine W.eq (g2 := F0 m0 4 ls []) rfl ?_
  generalize hHe : s0.heap = H at hG hsz hH ⊢
  exact z_vret S.1 hr hlocks hG hL hsz (fun j h => h) (fun j _ => rfl) dJxa1e45_init_da8c8_4 (Nat.le_of_ble_eq_true rfl) (Nat.le_of_ble_eq_true rfl)

set_option maxHeartbeats 2000000 in
set_option maxRecDepth 100000 in
theorem c_Jxc12de_init_da8c8 {l : Launch} {D : va_G} {cI cZ cB cO cR cJ : ClassId} {Hb : Heap} {K : kTx} {lv : Nat → Prop} {ad : Nat → Nat} {ce : Nat → va_E} (k n9 : Nat) (ho : lv k) (he : ce k = .inr (0, [.int 0, .null, .int 0])) : Met l yJxc12de_init_da8c8 wsJxc12de_init_da8c8 { frames := 2, cells := 0, slots := 0, locals := 54 } (va_Pc [.ref (ad k)] (kPz D (tyL cI cZ cB cO cR cJ) Hb K lv ad ce n9)) (gQz D Hb lv ad ce n9) 0 0 (gA Hb) := by
  refine Met.ofW (cc := cJxc12de_init_da8c8) (maxL := 1) (ret := none) (by decide) rfl ?_
  intro p0 e0 s0 m0 args below meth c0 s₁ B hml hv
  obtain ⟨rfl, hsz, ⟨hG, hK, hE⟩, hOA⟩ := hv
  have hx := B.exec
  have hb := B.bytes
  have hr := B.returns
  have hts := atoms_spec (ws := wsJxc12de_init_da8c8) B.pre
  have hown : s0.vm.findClass RJxc12de = some m0.cls := findClass_of_methodNamed B.named
  have hlocks := B.notSynchronized
  have hin2 : meth.name = "<init>" ∨ True := Or.inr trivial
  have S : kX p0 m0 c0 cJxc12de_init_da8c8 1 s0 _ wsJxc12de_init_da8c8 RJxc12de D (tyL cI cZ cB cO cR cJ) Hb K := ⟨⟨hx, hb, hml, hown, hts⟩, hK, hE⟩
  obtain ⟨-, hNm, -, -, -, -, -, -, -, hEm, -, -, -, -, -⟩ := hE
  have hL : gL Hb [] := gL.nil
  have hH := hG.2.2.2.2
  have hl := lv_entry ([.ref (ad k)]) (n := 1) (Nat.le_of_ble_eq_true rfl)
  rw [lg_entry_eq]
  generalize (lg_sl ([.ref (ad k)]) ++ List.replicate (1 - (lg_sl ([.ref (ad k)])).length) Slot.unset).toArray = ls at hl ⊢
  have hl : lv_has ls 1 [(0, .ref (ad k))] := hl
  refine lv_aload_n hx hb dJxc12de_init_da8c8_0 rfl (lv_at hl 0 rfl) ?_
  refine z_callI (n := 0) (As := []) (rest := []) (k := k) S hOA hG hL hsz (c_Jxa1e45_init_da8c8 k n9 ho ) (cwI 0 S.1.2.2.2.2 gJxc12de_init_da8c8_Jxa1e45_init_da8c8 rfl rfl rfl (hts (.initialized RJxa1e45) (by decide +kernel)) (hts (.methodLink RJxc12de 1 yJxa1e45_init_da8c8) (by decide +kernel)) (hts (.instanceMethod yJxa1e45_init_da8c8) (by decide +kernel)) rfl (by decide +kernel) ⟨(Nat.le_of_ble_eq_true rfl), (Nat.le_of_ble_eq_true rfl)⟩) rfl hl.1 rfl (Nat.le_of_ble_eq_true rfl) dJxc12de_init_da8c8_1 ⟨(Nat.le_of_ble_eq_true rfl), (Nat.le_of_ble_eq_true rfl)⟩ (fun H locs hG hL hsz => ?_)
  refine lv_aload_n hx hb dJxc12de_init_da8c8_4 rfl (lv_at hl 0 rfl) ?_
  refine lv_iconst (v := 0) hx hb dJxc12de_init_da8c8_5 (by decide) ?_
  refine g_putz (ref := "java/util/AbstractList") (C := RJx4a65c) (T := TJx4a65c) (N := 3) (ci := 0) (ty := .int) (v := .int 0) S.1 hK hG hL (fun w h => List.mem_cons_of_mem _ (List.mem_append_right _ h)) tyJx4a65c tyJx4a65c_ok nmJx4a65c k ho he rfl 0 (by decide) (hts (.fieldLink RJxc12de 7 "java/util/AbstractList" "modCount" "I") (by decide +kernel)) (fun _ h => h) rfl (by decide +kernel) rfl rfl (Nat.le_of_ble_eq_true rfl) dJxc12de_init_da8c8_6 (fun H locs hG hL hz9 => ?_)
  have hsz : Array.size H = n9 := by rw [hz9, hsz]
  rw [show ([.int 0, .null, .int 0] : List Value).set 0 (.int 0) = [.int 0, .null, .int 0] from rfl, va_up_id ce k _ he] at hG
  exact z_vret S.1 hr hlocks hG hL hsz (fun j h => h) (fun j _ => rfl) dJxc12de_init_da8c8_9 (Nat.le_of_ble_eq_true rfl) (Nat.le_of_ble_eq_true rfl)

set_option maxHeartbeats 2000000 in
set_option maxRecDepth 100000 in
theorem c_Jx4a65c_init_da8c8 {l : Launch} {D : va_G} {cI cZ cB cO cR cJ : ClassId} {Hb : Heap} {K : kTx} {lv : Nat → Prop} {ad : Nat → Nat} {ce : Nat → va_E} (k n9 : Nat) (ho : lv k) (he : ce k = .inr (0, [.int 0, .null, .int 0])) : Met l yJx4a65c_init_da8c8 wsJx4a65c_init_da8c8 { frames := 3, cells := 0, slots := 0, locals := 75 } (va_Pc [.ref (ad k)] (kPz D (tyL cI cZ cB cO cR cJ) Hb K lv ad ce n9)) (gQz D Hb lv ad (va_up ce k (.inr (0, [.int 0, .ref K.2.2.1, .int 0]))) n9) 0 0 (gA Hb) := by
  refine Met.ofW (cc := cJx4a65c_init_da8c8) (maxL := 1) (ret := none) (by decide) rfl ?_
  intro p0 e0 s0 m0 args below meth c0 s₁ B hml hv
  obtain ⟨rfl, hsz, ⟨hG, hK, hE⟩, hOA⟩ := hv
  have hx := B.exec
  have hb := B.bytes
  have hr := B.returns
  have hts := atoms_spec (ws := wsJx4a65c_init_da8c8) B.pre
  have hown : s0.vm.findClass RJx4a65c = some m0.cls := findClass_of_methodNamed B.named
  have hlocks := B.notSynchronized
  have hin2 : meth.name = "<init>" ∨ True := Or.inr trivial
  have S : kX p0 m0 c0 cJx4a65c_init_da8c8 1 s0 _ wsJx4a65c_init_da8c8 RJx4a65c D (tyL cI cZ cB cO cR cJ) Hb K := ⟨⟨hx, hb, hml, hown, hts⟩, hK, hE⟩
  obtain ⟨-, hNm, -, -, -, -, -, -, -, hEm, -, -, -, -, -⟩ := hE
  have hL : gL Hb [] := gL.nil
  have hH := hG.2.2.2.2
  have hl := lv_entry ([.ref (ad k)]) (n := 1) (Nat.le_of_ble_eq_true rfl)
  rw [lg_entry_eq]
  generalize (lg_sl ([.ref (ad k)]) ++ List.replicate (1 - (lg_sl ([.ref (ad k)])).length) Slot.unset).toArray = ls at hl ⊢
  have hl : lv_has ls 1 [(0, .ref (ad k))] := hl
  refine lv_aload_n hx hb dJx4a65c_init_da8c8_0 rfl (lv_at hl 0 rfl) ?_
  refine z_callI (n := 0) (As := []) (rest := []) (k := k) S hOA hG hL hsz (c_Jxc12de_init_da8c8 k n9 ho he) (cwI 0 S.1.2.2.2.2 gJx4a65c_init_da8c8_Jxc12de_init_da8c8 rfl rfl rfl (hts (.initialized RJxc12de) (by decide +kernel)) (hts (.methodLink RJx4a65c 1 yJxc12de_init_da8c8) (by decide +kernel)) (hts (.instanceMethod yJxc12de_init_da8c8) (by decide +kernel)) rfl (by decide +kernel) ⟨(Nat.le_of_ble_eq_true rfl), (Nat.le_of_ble_eq_true rfl)⟩) rfl hl.1 rfl (Nat.le_of_ble_eq_true rfl) dJx4a65c_init_da8c8_1 ⟨(Nat.le_of_ble_eq_true rfl), (Nat.le_of_ble_eq_true rfl)⟩ (fun H locs hG hL hsz => ?_)
  refine lv_aload_n hx hb dJx4a65c_init_da8c8_4 rfl (lv_at hl 0 rfl) ?_
  refine k_gets (v := .ref K.2.2.1) S hH hG hL hEm (hts (.fieldLink RJx4a65c 39 "java/util/ArrayList" "DEFAULTCAPACITY_EMPTY_ELEMENTDATA" "[Ljava/lang/Object;") (by decide +kernel)) dJx4a65c_init_da8c8_5 ?_
  refine g_putz (ref := "java/util/ArrayList") (C := RJx4a65c) (T := TJx4a65c) (N := 3) (ci := 0) (ty := .array (.object "java/lang/Object")) (v := .ref K.2.2.1) S.1 hK hG hL (fun w h => List.mem_cons_of_mem _ (List.mem_append_right _ h)) tyJx4a65c tyJx4a65c_ok nmJx4a65c k ho he rfl 1 (by decide) (hts (.fieldLink RJx4a65c 9 "java/util/ArrayList" "elementData" "[Ljava/lang/Object;") (by decide +kernel)) (fun _ h => h) rfl (by decide +kernel) rfl rfl (Nat.le_of_ble_eq_true rfl) dJx4a65c_init_da8c8_8 (fun H locs hG hL hz9 => ?_)
  have hsz : Array.size H = n9 := by rw [hz9, hsz]
  exact z_vret S.1 hr hlocks hG hL hsz (fun j h => h) (fun j _ => rfl) dJx4a65c_init_da8c8_11 (Nat.le_of_ble_eq_true rfl) (Nat.le_of_ble_eq_true rfl)

theorem rI_n {f : Nat} (h : f < 2 ∨ 5 < f) : ∀ n, rI n f = fun _ => 0
  | 0 => rfl
  | n + 1 => by
    show up2 (up2 (up2 (up2 (rI n) 2 n 15) 3 n 50) 4 n (-20)) 5 n 40 f = _
    rw [up2_nn _ _ _ (by omega), up2_nn _ _ _ (by omega), up2_nn _ _ _ (by omega), up2_nn _ _ _ (by omega)]
    exact rI_n h n
theorem rI_s : ∀ n, rI n 2 = fiU (fun _ => 0) 15 n ∧ rI n 3 = fiU (fun _ => 0) 50 n ∧ rI n 4 = fiU (fun _ => 0) (-20) n ∧ rI n 5 = fiU (fun _ => 0) 40 n
  | 0 => ⟨(fiU_0 _ _).symm, (fiU_0 _ _).symm, (fiU_0 _ _).symm, (fiU_0 _ _).symm⟩
  | n + 1 => by
    have q := rI_s n
    refine ⟨?_, ?_, ?_, ?_⟩
    · rw [← fiU_1, ← q.1]; rfl
    · rw [← fiU_1, ← q.2.1]; rfl
    · rw [← fiU_1, ← q.2.2.1]; rfl
    · rw [← fiU_1, ← q.2.2.2]; rfl
theorem sI_0 : (sI 6).toNatClampNeg = 0 ∧ (sI 14).toNatClampNeg = 0 ∧ (sI 26).toNatClampNeg = 0 ∧ (sI 39).toNatClampNeg = 0 := by decide

theorem tP_n1 {j : Nat} (h : tP 119 121 130 j) : ¬ j ∈ ([110, 109, 108, 107, 106, 105, 118, 117, 104, 116, 115, 114, 113, 103, 102, 112, 101] : List Nat) := by
  intro z
  unfold tP at h
  have q : ∀ x ∈ ([110, 109, 108, 107, 106, 105, 118, 117, 104, 116, 115, 114, 113, 103, 102, 112, 101] : List Nat), x < 119 := by decide
  have := q j z
  omega
theorem tP_n2 {j : Nat} (h : tP 120 122 150 j) : ¬ j ∈ ([110, 109, 108, 107, 106, 105, 118, 117, 104, 116, 115, 114, 113, 103, 102, 112, 101] : List Nat) := by
  intro z
  unfold tP at h
  have q : ∀ x ∈ ([110, 109, 108, 107, 106, 105, 118, 117, 104, 116, 115, 114, 113, 103, 102, 112, 101] : List Nat), x < 120 := by decide
  have := q j z
  omega
theorem j_in {j : Nat} (h : 101 ≤ j ∧ j < 119 ∧ ¬ j = 111) : j ∈ ([110, 109, 108, 107, 106, 105, 118, 117, 104, 116, 115, 114, 113, 103, 102, 112, 101] : List Nat) := by
  have q : ∀ i, i < 18 → ¬ 101 + i = 111 → 101 + i ∈ ([110, 109, 108, 107, 106, 105, 118, 117, 104, 116, 115, 114, 113, 103, 102, 112, 101] : List Nat) := by decide
  have := q (j - 101) (by omega) (by omega)
  rwa [show 101 + (j - 101) = j by omega] at this

set_option maxHeartbeats 30000000 in
set_option maxRecDepth 100000 in
theorem c_X9_init {l : Launch} {D : va_G} {cI cZ cB cO cR cJ : ClassId} {Hb : Heap} {K : kTx} {l0 : Nat → Prop} {ad : Nat → Nat} {ce : Nat → va_E} (s9 : Nat) (had : ∀ k, 100 < k → ad k = s9 + iK k) (he : ce 100 = .inr (10, [.null, .null, .null, .null, .null, .null, .null, .null, .null, .null, .null, .int 0, .int 0, .int 0])) : Met l yX9_init wsX9_init { frames := 4, cells := 56, slots := 1068, locals := 110 } (va_Pc [.ref (ad 100)] (kPz D (tyL cI cZ cB cO cR cJ) Hb K (lvA l0) ad ce s9)) (gQz D Hb (lvC l0 sI) ad (kJ ce ad K.2.2.1 cI cB cO cR sI (rI 31)) (s9 + 56)) 56 1068 (gA Hb) := by
  refine Met.ofW (cc := cX9_init) (maxL := 1) (ret := none) (by decide) rfl ?_
  intro p0 e0 s0 m0 args below meth c0 s₁ B hml hv
  obtain ⟨rfl, hsz, ⟨hG, hK, hE⟩, hOA⟩ := hv
  have hx := B.exec
  have hb := B.bytes
  have hr := B.returns
  have hts := atoms_spec (ws := wsX9_init) B.pre
  have hown : s0.vm.findClass RX9 = some m0.cls := findClass_of_methodNamed B.named
  have hlocks := B.notSynchronized
  have hin2 : meth.name = "<init>" ∨ True := Or.inr trivial
  have S : kX p0 m0 c0 cX9_init 1 s0 _ wsX9_init RX9 D (tyL cI cZ cB cO cR cJ) Hb K := ⟨⟨hx, hb, hml, hown, hts⟩, hK, hE⟩
  obtain ⟨-, hNm, -, -, -, -, -, -, -, hEm, -, -, -, -, -⟩ := hE
  have hL : gL Hb [] := gL.nil
  have hH := hG.2.2.2.2
  have hl := lv_entry ([.ref (ad 100)]) (n := 1) (Nat.le_of_ble_eq_true rfl)
  rw [lg_entry_eq]
  generalize (lg_sl ([.ref (ad 100)]) ++ List.replicate (1 - (lg_sl ([.ref (ad 100)])).length) Slot.unset).toArray = ls at hl ⊢
  have hl : lv_has ls 1 [(0, .ref (ad 100))] := hl
  have hin3 : meth.name = "<init>" := (name_of_methodNamed B.named B.method).1
  have hG := hG.less (lv' := lvN (lvA l0) []) lvN_0
  refine lv_aload_n hx hb dX9_init_0 rfl (lv_at hl 0 rfl) ?_
  refine W.objInit hx hb hown (hts (.methodLink RX9 1 objectInit) (by decide +kernel)) (hts (.instanceMethod objectInit) (by decide +kernel)) (hts (.code objectInit ⟨#[0xb1]⟩ 1 none) (by decide +kernel)) rfl (by rw [hml]; exact hl.1) rfl dX9_init_1 (Nat.le_of_ble_eq_true rfl) (Nat.le_of_ble_eq_true rfl) ?_
  refine W.eq (g2 := F0 m0 4 ls []) rfl ?_
  generalize hHe : s0.heap = H at hG hsz hH ⊢
  refine lv_aload_n hx hb dX9_init_4 rfl (lv_at hl 0 rfl) ?_
  refine g_new (C := RX7) (T := TX7) (N := 5) (ci := 8) (fs := [.null, .int 0, .int 0, .int 0, .int 0]) S.1 hK hG (fun w h => List.mem_cons_of_mem _ (List.mem_append_left _ (List.mem_append_left _ (List.mem_append_left _ (List.mem_append_left _ (List.mem_append_left _ (List.mem_append_left _ (List.mem_append_right _ h)))))))) tyX7 tyX7_ok (hts (.classLink RX9 7 RX7) (by decide +kernel)) (hts (.instantiable RX7 5) (by decide +kernel)) (hts (.initialized RX7) (by decide +kernel)) rfl 101 (lvN_n (lvA_n (by decide)) (by decide)) (by rw [had 101 (by decide), hsz]; rfl) (by decide +kernel) (Nat.le_of_ble_eq_true rfl) (Nat.le_of_ble_eq_true rfl) dX9_init_5 (fun H hG hz9 => ?_)
  have hG := hG.less (lv' := lvN (lvA l0) [101]) lvN_push
  have hsz : Array.size H = s9 + 1 := by rw [hz9, hsz]
  refine lv_dup hx hb dX9_init_8 rfl ?_
  refine z_callIN (n := 0) (As := []) (rest := [.ref (ad 101), .ref (ad 100)]) (k := 101) S hOA hG hL hsz (c_X7_init s9 had (Or.inr (by decide)) (fun j hj => lvN_n (lvA_n (by revert j; decide)) (by revert j; decide)) rfl) ⟨va_cnB 0 S.1.2.2.2.2 gX9_init_X7_init_n9 rfl rfl rfl (hNm (RX9, 9, yX7_init) (by decide +kernel)) (hts (.initialized RX7) (by decide +kernel)) (by decide +kernel) ⟨(Nat.le_of_ble_eq_true rfl), (Nat.le_of_ble_eq_true rfl)⟩, rfl, (hts (.instanceMethod yX7_init) (by decide +kernel))⟩ rfl hl.1 rfl (Nat.le_of_ble_eq_true rfl) dX9_init_9 ⟨(Nat.le_of_ble_eq_true rfl), (Nat.le_of_ble_eq_true rfl)⟩ (fun H locs hG hL hsz => ?_)
  have hG := hG.less (lv' := lvN (lvA l0) [112, 101]) (lvN_app (L := [101]) (M := [112]))
  refine g_putF (ref := RX9) (C := RX9) (T := TX9) (N := 14) (ci := 10) (ty := .object "SwarmLine$Tape") (v := .ref (ad 101)) S.1 hK hG hL (fun w h => List.mem_cons_of_mem _ (List.mem_append_left _ (List.mem_append_left _ (List.mem_append_left _ (List.mem_append_left _ (List.mem_append_left _ (List.mem_append_right _ h))))))) tyX9 tyX9_ok nmX9 100 (Or.inl lvA_100) he rfl 0 (by decide) (hts (.fieldLink RX9 10 "SwarmLine" "tape" "LSwarmLine$Tape;") (by decide +kernel)) (fun _ h => h) rfl hin3 rfl (by decide +kernel) rfl rfl (Nat.le_of_ble_eq_true rfl) dX9_init_12 (fun H locs hG hL hz9 => ?_)
  have hsz : Array.size H = s9 + 2 := by rw [hz9, hsz]
  refine lv_aload_n hx hb dX9_init_15 rfl (lv_at hl 0 rfl) ?_
  refine g_new (C := RX2) (T := TX2) (N := 6) (ci := 3) (fs := [.int 0, .int 0, .int 0, .int 0, .int 0, .int 0]) S.1 hK hG (fun w h => List.mem_cons_of_mem _ (List.mem_append_left _ (List.mem_append_left _ (List.mem_append_left _ (List.mem_append_left _ (List.mem_append_right _ h)))))) tyX2 tyX2_ok (hts (.classLink RX9 16 RX2) (by decide +kernel)) (hts (.instantiable RX2 6) (by decide +kernel)) (hts (.initialized RX2) (by decide +kernel)) rfl 102 (lvN_n (lvA_n (by decide)) (by decide)) (by rw [had 102 (by decide), hsz]; rfl) (by decide +kernel) (Nat.le_of_ble_eq_true rfl) (Nat.le_of_ble_eq_true rfl) dX9_init_16 (fun H hG hz9 => ?_)
  have hG := hG.less (lv' := lvN (lvA l0) [102, 112, 101]) lvN_push
  have hsz : Array.size H = s9 + 3 := by rw [hz9, hsz]
  refine lv_dup hx hb dX9_init_19 rfl ?_
  refine z_callIN (n := 0) (As := []) (rest := [.ref (ad 102), .ref (ad 100)]) (k := 102) S hOA hG hL hsz (c_X2_init s9 had (Or.inr (by decide)) (fun j hj => lvN_n (lvA_n (by revert j; decide)) (by revert j; decide)) rfl) ⟨va_cnB 0 S.1.2.2.2.2 gX9_init_X2_init_n18 rfl rfl rfl (hNm (RX9, 18, yX2_init) (by decide +kernel)) (hts (.initialized RX2) (by decide +kernel)) (by decide +kernel) ⟨(Nat.le_of_ble_eq_true rfl), (Nat.le_of_ble_eq_true rfl)⟩, rfl, (hts (.instanceMethod yX2_init) (by decide +kernel))⟩ rfl hl.1 rfl (Nat.le_of_ble_eq_true rfl) dX9_init_20 ⟨(Nat.le_of_ble_eq_true rfl), (Nat.le_of_ble_eq_true rfl)⟩ (fun H locs hG hL hsz => ?_)
  have hG := hG.less (lv' := lvN (lvA l0) [102, 112, 101]) (lvN_app (L := [102, 112, 101]) (M := []))
  refine g_putF (ref := RX9) (C := RX9) (T := TX9) (N := 14) (ci := 10) (ty := .object "SwarmLine$Facts") (v := .ref (ad 102)) S.1 hK hG hL (fun w h => List.mem_cons_of_mem _ (List.mem_append_left _ (List.mem_append_left _ (List.mem_append_left _ (List.mem_append_left _ (List.mem_append_left _ (List.mem_append_right _ h))))))) tyX9 tyX9_ok nmX9 100 (Or.inl lvA_100) rfl rfl 1 (by decide) (hts (.fieldLink RX9 19 "SwarmLine" "facts" "LSwarmLine$Facts;") (by decide +kernel)) (fun _ h => h) rfl hin3 rfl (by decide +kernel) rfl rfl (Nat.le_of_ble_eq_true rfl) dX9_init_23 (fun H locs hG hL hz9 => ?_)
  have hsz : Array.size H = s9 + 3 := by rw [hz9, hsz]
  refine lv_aload_n hx hb dX9_init_26 rfl (lv_at hl 0 rfl) ?_
  refine g_new (C := RX5) (T := TX5) (N := 4) (ci := 6) (fs := [.null, .null, .null, .null]) S.1 hK hG (fun w h => List.mem_cons_of_mem _ (List.mem_append_left _ (List.mem_append_left _ (List.mem_append_left _ (List.mem_append_right _ h))))) tyX5 tyX5_ok (hts (.classLink RX9 23 RX5) (by decide +kernel)) (hts (.instantiable RX5 4) (by decide +kernel)) (hts (.initialized RX5) (by decide +kernel)) rfl 103 (lvN_n (lvA_n (by decide)) (by decide)) (by rw [had 103 (by decide), hsz]; rfl) (by decide +kernel) (Nat.le_of_ble_eq_true rfl) (Nat.le_of_ble_eq_true rfl) dX9_init_27 (fun H hG hz9 => ?_)
  have hG := hG.less (lv' := lvN (lvA l0) [103, 102, 112, 101]) lvN_push
  have hsz : Array.size H = s9 + 4 := by rw [hz9, hsz]
  refine lv_dup hx hb dX9_init_30 rfl ?_
  refine z_callI (n := 0) (As := []) (rest := [.ref (ad 103), .ref (ad 100)]) (k := 103) S hOA hG hL hsz (c_X5_init s9 had (Or.inr (by decide)) (fun j hj => lvN_n (lvA_n (by revert j; decide)) (by revert j; decide)) rfl) (cwI 0 S.1.2.2.2.2 gX9_init_X5_init rfl rfl rfl (hts (.initialized RX5) (by decide +kernel)) (hts (.methodLink RX9 25 yX5_init) (by decide +kernel)) (hts (.instanceMethod yX5_init) (by decide +kernel)) rfl (by decide +kernel) ⟨(Nat.le_of_ble_eq_true rfl), (Nat.le_of_ble_eq_true rfl)⟩) rfl hl.1 rfl (Nat.le_of_ble_eq_true rfl) dX9_init_31 ⟨(Nat.le_of_ble_eq_true rfl), (Nat.le_of_ble_eq_true rfl)⟩ (fun H locs hG hL hsz => ?_)
  have hG := hG.less (lv' := lvN (lvA l0) [116, 115, 114, 113, 103, 102, 112, 101]) (lvN_app (L := [103, 102, 112, 101]) (M := [116, 115, 114, 113]))
  refine g_putF (ref := RX9) (C := RX9) (T := TX9) (N := 14) (ci := 10) (ty := .object "SwarmLine$Sky") (v := .ref (ad 103)) S.1 hK hG hL (fun w h => List.mem_cons_of_mem _ (List.mem_append_left _ (List.mem_append_left _ (List.mem_append_left _ (List.mem_append_left _ (List.mem_append_left _ (List.mem_append_right _ h))))))) tyX9 tyX9_ok nmX9 100 (Or.inl lvA_100) rfl rfl 2 (by decide) (hts (.fieldLink RX9 26 "SwarmLine" "sky" "LSwarmLine$Sky;") (by decide +kernel)) (fun _ h => h) rfl hin3 rfl (by decide +kernel) rfl rfl (Nat.le_of_ble_eq_true rfl) dX9_init_34 (fun H locs hG hL hz9 => ?_)
  have hsz : Array.size H = s9 + 8 := by rw [hz9, hsz]
  refine lv_aload_n hx hb dX9_init_37 rfl (lv_at hl 0 rfl) ?_
  refine g_new (C := RX0) (T := TX0) (N := 3) (ci := 1) (fs := [.null, .null, .int 0]) S.1 hK hG (fun w h => List.mem_cons_of_mem _ (List.mem_append_left _ (List.mem_append_left _ (List.mem_append_right _ h)))) tyX0 tyX0_ok (hts (.classLink RX9 30 RX0) (by decide +kernel)) (hts (.instantiable RX0 3) (by decide +kernel)) (hts (.initialized RX0) (by decide +kernel)) rfl 104 (lvN_n (lvA_n (by decide)) (by decide)) (by rw [had 104 (by decide), hsz]; rfl) (by decide +kernel) (Nat.le_of_ble_eq_true rfl) (Nat.le_of_ble_eq_true rfl) dX9_init_38 (fun H hG hz9 => ?_)
  have hG := hG.less (lv' := lvN (lvA l0) [104, 116, 115, 114, 113, 103, 102, 112, 101]) lvN_push
  have hsz : Array.size H = s9 + 9 := by rw [hz9, hsz]
  refine lv_dup hx hb dX9_init_41 rfl ?_
  refine z_callIN (n := 0) (As := []) (rest := [.ref (ad 104), .ref (ad 100)]) (k := 104) S hOA hG hL hsz (c_X0_init s9 had (Or.inr (by decide)) (fun j hj => lvN_n (lvA_n (by revert j; decide)) (by revert j; decide)) rfl) ⟨va_cnB 0 S.1.2.2.2.2 gX9_init_X0_init_n32 rfl rfl rfl (hNm (RX9, 32, yX0_init) (by decide +kernel)) (hts (.initialized RX0) (by decide +kernel)) (by decide +kernel) ⟨(Nat.le_of_ble_eq_true rfl), (Nat.le_of_ble_eq_true rfl)⟩, rfl, (hts (.instanceMethod yX0_init) (by decide +kernel))⟩ rfl hl.1 rfl (Nat.le_of_ble_eq_true rfl) dX9_init_42 ⟨(Nat.le_of_ble_eq_true rfl), (Nat.le_of_ble_eq_true rfl)⟩ (fun H locs hG hL hsz => ?_)
  have hG := hG.less (lv' := lvN (lvA l0) [118, 117, 104, 116, 115, 114, 113, 103, 102, 112, 101]) (lvN_app (L := [104, 116, 115, 114, 113, 103, 102, 112, 101]) (M := [118, 117]))
  refine g_putF (ref := RX9) (C := RX9) (T := TX9) (N := 14) (ci := 10) (ty := .object "SwarmLine$Asked") (v := .ref (ad 104)) S.1 hK hG hL (fun w h => List.mem_cons_of_mem _ (List.mem_append_left _ (List.mem_append_left _ (List.mem_append_left _ (List.mem_append_left _ (List.mem_append_left _ (List.mem_append_right _ h))))))) tyX9 tyX9_ok nmX9 100 (Or.inl lvA_100) rfl rfl 3 (by decide) (hts (.fieldLink RX9 33 "SwarmLine" "askedLast" "LSwarmLine$Asked;") (by decide +kernel)) (fun _ h => h) rfl hin3 rfl (by decide +kernel) rfl rfl (Nat.le_of_ble_eq_true rfl) dX9_init_45 (fun H locs hG hL hz9 => ?_)
  have hsz : Array.size H = s9 + 11 := by rw [hz9, hsz]
  refine lv_aload_n hx hb dX9_init_48 rfl (lv_at hl 0 rfl) ?_
  refine g_new (C := RJx4a65c) (T := TJx4a65c) (N := 3) (ci := 0) (fs := [.int 0, .null, .int 0]) S.1 hK hG (fun w h => List.mem_cons_of_mem _ (List.mem_append_left _ (List.mem_append_right _ h))) tyJx4a65c tyJx4a65c_ok (hts (.classLink RX9 37 RJx4a65c) (by decide +kernel)) (hts (.instantiable RJx4a65c 3) (by decide +kernel)) (hts (.initialized RJx4a65c) (by decide +kernel)) rfl 105 (lvN_n (lvA_n (by decide)) (by decide)) (by rw [had 105 (by decide), hsz]; rfl) (by decide +kernel) (Nat.le_of_ble_eq_true rfl) (Nat.le_of_ble_eq_true rfl) dX9_init_49 (fun H hG hz9 => ?_)
  have hG := hG.less (lv' := lvN (lvA l0) [105, 118, 117, 104, 116, 115, 114, 113, 103, 102, 112, 101]) lvN_push
  have hsz : Array.size H = s9 + 12 := by rw [hz9, hsz]
  refine lv_dup hx hb dX9_init_52 rfl ?_
  refine z_callI (n := 0) (As := []) (rest := [.ref (ad 105), .ref (ad 100)]) (k := 105) S hOA hG hL hsz (c_Jx4a65c_init_da8c8 105 _ (Or.inr (by decide)) rfl) (cwI 0 S.1.2.2.2.2 gX9_init_Jx4a65c_init_da8c8 rfl rfl rfl (hts (.initialized RJx4a65c) (by decide +kernel)) (hts (.methodLink RX9 39 yJx4a65c_init_da8c8) (by decide +kernel)) (hts (.instanceMethod yJx4a65c_init_da8c8) (by decide +kernel)) rfl (by decide +kernel) ⟨(Nat.le_of_ble_eq_true rfl), (Nat.le_of_ble_eq_true rfl)⟩) rfl hl.1 rfl (Nat.le_of_ble_eq_true rfl) dX9_init_53 ⟨(Nat.le_of_ble_eq_true rfl), (Nat.le_of_ble_eq_true rfl)⟩ (fun H locs hG hL hsz => ?_)
  refine g_putF (ref := RX9) (C := RX9) (T := TX9) (N := 14) (ci := 10) (ty := .object "java/util/ArrayList") (v := .ref (ad 105)) S.1 hK hG hL (fun w h => List.mem_cons_of_mem _ (List.mem_append_left _ (List.mem_append_left _ (List.mem_append_left _ (List.mem_append_left _ (List.mem_append_left _ (List.mem_append_right _ h))))))) tyX9 tyX9_ok nmX9 100 (Or.inl lvA_100) rfl rfl 4 (by decide) (hts (.fieldLink RX9 40 "SwarmLine" "hives" "Ljava/util/ArrayList;") (by decide +kernel)) (fun _ h => h) rfl hin3 rfl (by decide +kernel) rfl rfl (Nat.le_of_ble_eq_true rfl) dX9_init_56 (fun H locs hG hL hz9 => ?_)
  have hsz : Array.size H = s9 + 12 := by rw [hz9, hsz]
  refine lv_aload_n hx hb dX9_init_59 rfl (lv_at hl 0 rfl) ?_
  refine g_new (C := RJx4a65c) (T := TJx4a65c) (N := 3) (ci := 0) (fs := [.int 0, .null, .int 0]) S.1 hK hG (fun w h => List.mem_cons_of_mem _ (List.mem_append_left _ (List.mem_append_right _ h))) tyJx4a65c tyJx4a65c_ok (hts (.classLink RX9 37 RJx4a65c) (by decide +kernel)) (hts (.instantiable RJx4a65c 3) (by decide +kernel)) (hts (.initialized RJx4a65c) (by decide +kernel)) rfl 106 (lvN_n (lvA_n (by decide)) (by decide)) (by rw [had 106 (by decide), hsz]; rfl) (by decide +kernel) (Nat.le_of_ble_eq_true rfl) (Nat.le_of_ble_eq_true rfl) dX9_init_60 (fun H hG hz9 => ?_)
  have hG := hG.less (lv' := lvN (lvA l0) [106, 105, 118, 117, 104, 116, 115, 114, 113, 103, 102, 112, 101]) lvN_push
  have hsz : Array.size H = s9 + 13 := by rw [hz9, hsz]
  refine lv_dup hx hb dX9_init_63 rfl ?_
  refine z_callI (n := 0) (As := []) (rest := [.ref (ad 106), .ref (ad 100)]) (k := 106) S hOA hG hL hsz (c_Jx4a65c_init_da8c8 106 _ (Or.inr (by decide)) rfl) (cwI 0 S.1.2.2.2.2 gX9_init_Jx4a65c_init_da8c8 rfl rfl rfl (hts (.initialized RJx4a65c) (by decide +kernel)) (hts (.methodLink RX9 39 yJx4a65c_init_da8c8) (by decide +kernel)) (hts (.instanceMethod yJx4a65c_init_da8c8) (by decide +kernel)) rfl (by decide +kernel) ⟨(Nat.le_of_ble_eq_true rfl), (Nat.le_of_ble_eq_true rfl)⟩) rfl hl.1 rfl (Nat.le_of_ble_eq_true rfl) dX9_init_64 ⟨(Nat.le_of_ble_eq_true rfl), (Nat.le_of_ble_eq_true rfl)⟩ (fun H locs hG hL hsz => ?_)
  refine g_putF (ref := RX9) (C := RX9) (T := TX9) (N := 14) (ci := 10) (ty := .object "java/util/ArrayList") (v := .ref (ad 106)) S.1 hK hG hL (fun w h => List.mem_cons_of_mem _ (List.mem_append_left _ (List.mem_append_left _ (List.mem_append_left _ (List.mem_append_left _ (List.mem_append_left _ (List.mem_append_right _ h))))))) tyX9 tyX9_ok nmX9 100 (Or.inl lvA_100) rfl rfl 5 (by decide) (hts (.fieldLink RX9 44 "SwarmLine" "swarms" "Ljava/util/ArrayList;") (by decide +kernel)) (fun _ h => h) rfl hin3 rfl (by decide +kernel) rfl rfl (Nat.le_of_ble_eq_true rfl) dX9_init_67 (fun H locs hG hL hz9 => ?_)
  have hsz : Array.size H = s9 + 13 := by rw [hz9, hsz]
  refine lv_aload_n hx hb dX9_init_70 rfl (lv_at hl 0 rfl) ?_
  refine g_new (C := RJx4a65c) (T := TJx4a65c) (N := 3) (ci := 0) (fs := [.int 0, .null, .int 0]) S.1 hK hG (fun w h => List.mem_cons_of_mem _ (List.mem_append_left _ (List.mem_append_right _ h))) tyJx4a65c tyJx4a65c_ok (hts (.classLink RX9 37 RJx4a65c) (by decide +kernel)) (hts (.instantiable RJx4a65c 3) (by decide +kernel)) (hts (.initialized RJx4a65c) (by decide +kernel)) rfl 107 (lvN_n (lvA_n (by decide)) (by decide)) (by rw [had 107 (by decide), hsz]; rfl) (by decide +kernel) (Nat.le_of_ble_eq_true rfl) (Nat.le_of_ble_eq_true rfl) dX9_init_71 (fun H hG hz9 => ?_)
  have hG := hG.less (lv' := lvN (lvA l0) [107, 106, 105, 118, 117, 104, 116, 115, 114, 113, 103, 102, 112, 101]) lvN_push
  have hsz : Array.size H = s9 + 14 := by rw [hz9, hsz]
  refine lv_dup hx hb dX9_init_74 rfl ?_
  refine z_callI (n := 0) (As := []) (rest := [.ref (ad 107), .ref (ad 100)]) (k := 107) S hOA hG hL hsz (c_Jx4a65c_init_da8c8 107 _ (Or.inr (by decide)) rfl) (cwI 0 S.1.2.2.2.2 gX9_init_Jx4a65c_init_da8c8 rfl rfl rfl (hts (.initialized RJx4a65c) (by decide +kernel)) (hts (.methodLink RX9 39 yJx4a65c_init_da8c8) (by decide +kernel)) (hts (.instanceMethod yJx4a65c_init_da8c8) (by decide +kernel)) rfl (by decide +kernel) ⟨(Nat.le_of_ble_eq_true rfl), (Nat.le_of_ble_eq_true rfl)⟩) rfl hl.1 rfl (Nat.le_of_ble_eq_true rfl) dX9_init_75 ⟨(Nat.le_of_ble_eq_true rfl), (Nat.le_of_ble_eq_true rfl)⟩ (fun H locs hG hL hsz => ?_)
  refine g_putF (ref := RX9) (C := RX9) (T := TX9) (N := 14) (ci := 10) (ty := .object "java/util/ArrayList") (v := .ref (ad 107)) S.1 hK hG hL (fun w h => List.mem_cons_of_mem _ (List.mem_append_left _ (List.mem_append_left _ (List.mem_append_left _ (List.mem_append_left _ (List.mem_append_left _ (List.mem_append_right _ h))))))) tyX9 tyX9_ok nmX9 100 (Or.inl lvA_100) rfl rfl 6 (by decide) (hts (.fieldLink RX9 47 "SwarmLine" "keepers" "Ljava/util/ArrayList;") (by decide +kernel)) (fun _ h => h) rfl hin3 rfl (by decide +kernel) rfl rfl (Nat.le_of_ble_eq_true rfl) dX9_init_78 (fun H locs hG hL hz9 => ?_)
  have hsz : Array.size H = s9 + 14 := by rw [hz9, hsz]
  refine lv_aload_n hx hb dX9_init_81 rfl (lv_at hl 0 rfl) ?_
  refine g_new (C := RJx4a65c) (T := TJx4a65c) (N := 3) (ci := 0) (fs := [.int 0, .null, .int 0]) S.1 hK hG (fun w h => List.mem_cons_of_mem _ (List.mem_append_left _ (List.mem_append_right _ h))) tyJx4a65c tyJx4a65c_ok (hts (.classLink RX9 37 RJx4a65c) (by decide +kernel)) (hts (.instantiable RJx4a65c 3) (by decide +kernel)) (hts (.initialized RJx4a65c) (by decide +kernel)) rfl 108 (lvN_n (lvA_n (by decide)) (by decide)) (by rw [had 108 (by decide), hsz]; rfl) (by decide +kernel) (Nat.le_of_ble_eq_true rfl) (Nat.le_of_ble_eq_true rfl) dX9_init_82 (fun H hG hz9 => ?_)
  have hG := hG.less (lv' := lvN (lvA l0) [108, 107, 106, 105, 118, 117, 104, 116, 115, 114, 113, 103, 102, 112, 101]) lvN_push
  have hsz : Array.size H = s9 + 15 := by rw [hz9, hsz]
  refine lv_dup hx hb dX9_init_85 rfl ?_
  refine z_callI (n := 0) (As := []) (rest := [.ref (ad 108), .ref (ad 100)]) (k := 108) S hOA hG hL hsz (c_Jx4a65c_init_da8c8 108 _ (Or.inr (by decide)) rfl) (cwI 0 S.1.2.2.2.2 gX9_init_Jx4a65c_init_da8c8 rfl rfl rfl (hts (.initialized RJx4a65c) (by decide +kernel)) (hts (.methodLink RX9 39 yJx4a65c_init_da8c8) (by decide +kernel)) (hts (.instanceMethod yJx4a65c_init_da8c8) (by decide +kernel)) rfl (by decide +kernel) ⟨(Nat.le_of_ble_eq_true rfl), (Nat.le_of_ble_eq_true rfl)⟩) rfl hl.1 rfl (Nat.le_of_ble_eq_true rfl) dX9_init_86 ⟨(Nat.le_of_ble_eq_true rfl), (Nat.le_of_ble_eq_true rfl)⟩ (fun H locs hG hL hsz => ?_)
  refine g_putF (ref := RX9) (C := RX9) (T := TX9) (N := 14) (ci := 10) (ty := .object "java/util/ArrayList") (v := .ref (ad 108)) S.1 hK hG hL (fun w h => List.mem_cons_of_mem _ (List.mem_append_left _ (List.mem_append_left _ (List.mem_append_left _ (List.mem_append_left _ (List.mem_append_left _ (List.mem_append_right _ h))))))) tyX9 tyX9_ok nmX9 100 (Or.inl lvA_100) rfl rfl 7 (by decide) (hts (.fieldLink RX9 50 "SwarmLine" "cases" "Ljava/util/ArrayList;") (by decide +kernel)) (fun _ h => h) rfl hin3 rfl (by decide +kernel) rfl rfl (Nat.le_of_ble_eq_true rfl) dX9_init_89 (fun H locs hG hL hz9 => ?_)
  have hsz : Array.size H = s9 + 15 := by rw [hz9, hsz]
  refine lv_aload_n hx hb dX9_init_92 rfl (lv_at hl 0 rfl) ?_
  refine lv_bipush (v := 8) hx hb dX9_init_93 (by decide) ?_
  refine g_newa (atype := .int) (cA := cI) (N' := 8) (a0 := (8, .inl (fun _ => 0))) S.1 hK hG (hts (.arrayClass .int) (by decide +kernel)) 0 rfl 109 (lvN_n (lvA_n (by decide)) (by decide)) (by rw [had 109 (by decide), hsz]; rfl) (fun _ => rfl) (by decide) (by decide) (by decide) (Nat.le_of_ble_eq_true rfl) (Nat.le_of_ble_eq_true rfl) dX9_init_95 (fun H hG hz9 => ?_)
  have hG := hG.less (lv' := lvN (lvA l0) [109, 108, 107, 106, 105, 118, 117, 104, 116, 115, 114, 113, 103, 102, 112, 101]) lvN_push
  have hsz : Array.size H = s9 + 16 := by rw [hz9, hsz]
  refine g_putF (ref := RX9) (C := RX9) (T := TX9) (N := 14) (ci := 10) (ty := .array .int) (v := .ref (ad 109)) S.1 hK hG hL (fun w h => List.mem_cons_of_mem _ (List.mem_append_left _ (List.mem_append_left _ (List.mem_append_left _ (List.mem_append_left _ (List.mem_append_left _ (List.mem_append_right _ h))))))) tyX9 tyX9_ok nmX9 100 (Or.inl lvA_100) rfl rfl 8 (by decide) (hts (.fieldLink RX9 53 "SwarmLine" "reach" "[I") (by decide +kernel)) (fun _ h => h) rfl hin3 rfl (by decide +kernel) rfl rfl (Nat.le_of_ble_eq_true rfl) dX9_init_97 (fun H locs hG hL hz9 => ?_)
  have hsz : Array.size H = s9 + 16 := by rw [hz9, hsz]
  refine lv_aload_n hx hb dX9_init_100 rfl (lv_at hl 0 rfl) ?_
  refine g_new (C := RX8) (T := TX8) (N := 3) (ci := 9) (fs := [.null, .null, .int 0]) S.1 hK hG (fun w h => List.mem_cons_of_mem _ (List.mem_append_right _ h)) tyX8 tyX8_ok (hts (.classLink RX9 57 RX8) (by decide +kernel)) (hts (.instantiable RX8 3) (by decide +kernel)) (hts (.initialized RX8) (by decide +kernel)) rfl 110 (lvN_n (lvA_n (by decide)) (by decide)) (by rw [had 110 (by decide), hsz]; rfl) (by decide +kernel) (Nat.le_of_ble_eq_true rfl) (Nat.le_of_ble_eq_true rfl) dX9_init_101 (fun H hG hz9 => ?_)
  have hG := hG.less (lv' := lvN (lvA l0) [110, 109, 108, 107, 106, 105, 118, 117, 104, 116, 115, 114, 113, 103, 102, 112, 101]) lvN_push
  have hsz : Array.size H = s9 + 17 := by rw [hz9, hsz]
  refine lv_dup hx hb dX9_init_104 rfl ?_
  refine z_callIN (n := 0) (As := []) (rest := [.ref (ad 110), .ref (ad 100)]) (k := 110) S hOA hG hL hsz (c_X8_init110 s9 had (Or.inr (by decide)) (fun j hj => lvN_n (lvA_n (by unfold tP at hj; omega)) (tP_n1 hj)) rfl) ⟨va_cnB 0 S.1.2.2.2.2 gX9_init_X8_init_n59 rfl rfl rfl (hNm (RX9, 59, yX8_init) (by decide +kernel)) (hts (.initialized RX8) (by decide +kernel)) (by decide +kernel) ⟨(Nat.le_of_ble_eq_true rfl), (Nat.le_of_ble_eq_true rfl)⟩, rfl, (hts (.instanceMethod yX8_init) (by decide +kernel))⟩ rfl hl.1 rfl (Nat.le_of_ble_eq_true rfl) dX9_init_105 ⟨(Nat.le_of_ble_eq_true rfl), (Nat.le_of_ble_eq_true rfl)⟩ (fun H locs hG hL hsz => ?_)
  refine g_putz (ref := RX9) (C := RX9) (T := TX9) (N := 14) (ci := 10) (ty := .object "SwarmLine$Turns") (v := .ref (ad 110)) S.1 hK hG hL (fun w h => List.mem_cons_of_mem _ (List.mem_append_left _ (List.mem_append_left _ (List.mem_append_left _ (List.mem_append_left _ (List.mem_append_left _ (List.mem_append_right _ h))))))) tyX9 tyX9_ok nmX9 100 (Or.inl (Or.inl lvA_100)) rfl rfl 9 (by decide) (hts (.fieldLink RX9 60 "SwarmLine" "turns" "LSwarmLine$Turns;") (by decide +kernel)) (fun _ h => h) rfl (by decide +kernel) rfl rfl (Nat.le_of_ble_eq_true rfl) dX9_init_108 (fun H locs hG hL hz9 => ?_)
  have hsz : Array.size H = s9 + 36 := by rw [hz9, hsz]
  refine lv_aload_n hx hb dX9_init_111 rfl (lv_at hl 0 rfl) ?_
  refine g_new (C := RX8) (T := TX8) (N := 3) (ci := 9) (fs := [.null, .null, .int 0]) S.1 hK hG (fun w h => List.mem_cons_of_mem _ (List.mem_append_right _ h)) tyX8 tyX8_ok (hts (.classLink RX9 57 RX8) (by decide +kernel)) (hts (.instantiable RX8 3) (by decide +kernel)) (hts (.initialized RX8) (by decide +kernel)) rfl 111 (fun z => by { rcases z with z | z; exact lvN_n (lvA_n (by decide)) (by decide) z; unfold tP at z; omega }) (by rw [had 111 (by decide), hsz]; rfl) (by decide +kernel) (Nat.le_of_ble_eq_true rfl) (Nat.le_of_ble_eq_true rfl) dX9_init_112 (fun H hG hz9 => ?_)
  have hsz : Array.size H = s9 + 37 := by rw [hz9, hsz]
  refine lv_dup hx hb dX9_init_115 rfl ?_
  refine z_callIN (n := 0) (As := []) (rest := [.ref (ad 111), .ref (ad 100)]) (k := 111) S hOA hG hL hsz (c_X8_init111 s9 had (Or.inr rfl) (fun j hj z => by { rcases z with (z | z) | z; exact lvN_n (lvA_n (by unfold tP at hj; omega)) (tP_n2 hj) z; unfold tP at z hj; omega; unfold tP at hj; omega }) rfl) ⟨va_cnB 0 S.1.2.2.2.2 gX9_init_X8_init_n59 rfl rfl rfl (hNm (RX9, 59, yX8_init) (by decide +kernel)) (hts (.initialized RX8) (by decide +kernel)) (by decide +kernel) ⟨(Nat.le_of_ble_eq_true rfl), (Nat.le_of_ble_eq_true rfl)⟩, rfl, (hts (.instanceMethod yX8_init) (by decide +kernel))⟩ rfl hl.1 rfl (Nat.le_of_ble_eq_true rfl) dX9_init_116 ⟨(Nat.le_of_ble_eq_true rfl), (Nat.le_of_ble_eq_true rfl)⟩ (fun H locs hG hL hsz => ?_)
  refine g_putz (ref := RX9) (C := RX9) (T := TX9) (N := 14) (ci := 10) (ty := .object "SwarmLine$Turns") (v := .ref (ad 111)) S.1 hK hG hL (fun w h => List.mem_cons_of_mem _ (List.mem_append_left _ (List.mem_append_left _ (List.mem_append_left _ (List.mem_append_left _ (List.mem_append_left _ (List.mem_append_right _ h))))))) tyX9 tyX9_ok nmX9 100 (Or.inl (Or.inl (Or.inl (Or.inl lvA_100)))) rfl rfl 10 (by decide) (hts (.fieldLink RX9 64 "SwarmLine" "draft" "LSwarmLine$Turns;") (by decide +kernel)) (fun _ h => h) rfl (by decide +kernel) rfl rfl (Nat.le_of_ble_eq_true rfl) dX9_init_119 (fun H locs hG hL hz9 => ?_)
  have hsz : Array.size H = s9 + 56 := by rw [hz9, hsz]
  refine lv_aload_n hx hb dX9_init_122 rfl (lv_at hl 0 rfl) ?_
  refine lv_iconst (v := 0) hx hb dX9_init_123 (by decide) ?_
  refine g_putz (ref := RX9) (C := RX9) (T := TX9) (N := 14) (ci := 10) (ty := .int) (v := .int 0) S.1 hK hG hL (fun w h => List.mem_cons_of_mem _ (List.mem_append_left _ (List.mem_append_left _ (List.mem_append_left _ (List.mem_append_left _ (List.mem_append_left _ (List.mem_append_right _ h))))))) tyX9 tyX9_ok nmX9 100 (Or.inl (Or.inl (Or.inl (Or.inl lvA_100)))) rfl rfl 11 (by decide) (hts (.fieldLink RX9 67 "SwarmLine" "calls" "I") (by decide +kernel)) (fun _ h => h) rfl (by decide +kernel) rfl rfl (Nat.le_of_ble_eq_true rfl) dX9_init_124 (fun H locs hG hL hz9 => ?_)
  have hsz : Array.size H = s9 + 56 := by rw [hz9, hsz]
  refine lv_aload_n hx hb dX9_init_127 rfl (lv_at hl 0 rfl) ?_
  refine lv_iconst (v := 0) hx hb dX9_init_128 (by decide) ?_
  refine g_putz (ref := RX9) (C := RX9) (T := TX9) (N := 14) (ci := 10) (ty := .int) (v := .int 0) S.1 hK hG hL (fun w h => List.mem_cons_of_mem _ (List.mem_append_left _ (List.mem_append_left _ (List.mem_append_left _ (List.mem_append_left _ (List.mem_append_left _ (List.mem_append_right _ h))))))) tyX9 tyX9_ok nmX9 100 (Or.inl (Or.inl (Or.inl (Or.inl lvA_100)))) rfl rfl 12 (by decide) (hts (.fieldLink RX9 71 "SwarmLine" "now" "I") (by decide +kernel)) (fun _ h => h) rfl (by decide +kernel) rfl rfl (Nat.le_of_ble_eq_true rfl) dX9_init_129 (fun H locs hG hL hz9 => ?_)
  have hsz : Array.size H = s9 + 56 := by rw [hz9, hsz]
  refine lv_aload_n hx hb dX9_init_132 rfl (lv_at hl 0 rfl) ?_
  refine lv_iconst (v := (-1)) hx hb dX9_init_133 (by decide) ?_
  refine g_putz (ref := RX9) (C := RX9) (T := TX9) (N := 14) (ci := 10) (ty := .int) (v := .int (-1)) S.1 hK hG hL (fun w h => List.mem_cons_of_mem _ (List.mem_append_left _ (List.mem_append_left _ (List.mem_append_left _ (List.mem_append_left _ (List.mem_append_left _ (List.mem_append_right _ h))))))) tyX9 tyX9_ok nmX9 100 (Or.inl (Or.inl (Or.inl (Or.inl lvA_100)))) rfl rfl 13 (by decide) (hts (.fieldLink RX9 74 "SwarmLine" "wrongByte" "I") (by decide +kernel)) (fun _ h => h) rfl (by decide +kernel) rfl rfl (Nat.le_of_ble_eq_true rfl) dX9_init_134 (fun H locs hG hL hz9 => ?_)
  have hsz : Array.size H = s9 + 56 := by rw [hz9, hsz]
  refine z_vret S.1 hr hlocks hG hL hsz (fun j h => ?_) (fun j h => ?_) dX9_init_137 (Nat.le_of_ble_eq_true rfl) (Nat.le_of_ble_eq_true rfl)
  · rcases h with h | h
    · exact Or.inl (Or.inl (Or.inl (Or.inl (Or.inl h))))
    · have q := sI_0
      rw [q.1, q.2.1, q.2.2.1, q.2.2.2] at h
      have hk : j = 100 ∨ (101 ≤ j ∧ j < 119 ∧ ¬ j = 111) ∨ tP 119 121 130 j ∨ j = 111 ∨ tP 120 122 150 j := by
        unfold kLv at h
        unfold tP
        omega
      rcases hk with hk | hk | hk | hk | hk
      · exact Or.inl (Or.inl (Or.inl (Or.inl (Or.inr hk))))
      · exact Or.inl (Or.inl (Or.inl (Or.inr (j_in hk))))
      · exact Or.inl (Or.inl (Or.inr hk))
      · exact Or.inl (Or.inr hk)
      · exact Or.inr hk
  · have hI := rI_s 31
    have hk : j < 100 ∨ j = 100 ∨ j = 101 ∨ j = 102 ∨ j = 103 ∨ j = 104 ∨ j = 105 ∨ j = 106 ∨ j = 107 ∨ j = 108 ∨ j = 109 ∨ j = 110 ∨ j = 111 ∨ j = 112 ∨ j = 113 ∨ j = 114 ∨ j = 115 ∨ j = 116 ∨ j = 117 ∨ j = 118 ∨ j = 119 ∨ j = 120 ∨ j = 121 ∨ j = 122 ∨ (130 ≤ j ∧ j < 147) ∨ (150 ≤ j ∧ j < 167) := by
      rcases h with h | h
      · omega
      · have q := sI_0
        rw [q.1, q.2.1, q.2.2.1, q.2.2.2] at h
        unfold kLv at h
        omega
    rcases hk with hk | hk | hk | hk | hk | hk | hk | hk | hk | hk | hk | hk | hk | hk | hk | hk | hk | hk | hk | hk | hk | hk | hk | hk | hk | hk
    · unfold kJ
      rw [if_pos hk]
      simp only [va_up, show ¬ j = 100 by omega, show ¬ j = 101 by omega, show ¬ j = 102 by omega, show ¬ j = 103 by omega, show ¬ j = 104 by omega, show ¬ j = 105 by omega, show ¬ j = 106 by omega, show ¬ j = 107 by omega, show ¬ j = 108 by omega, show ¬ j = 109 by omega, show ¬ j = 110 by omega, show ¬ j = 111 by omega, show ¬ j = 112 by omega, show ¬ j = 113 by omega, show ¬ j = 114 by omega, show ¬ j = 115 by omega, show ¬ j = 116 by omega, show ¬ j = 117 by omega, show ¬ j = 118 by omega, show ¬ j = 119 by omega, show ¬ j = 120 by omega, show ¬ j = 121 by omega, show ¬ j = 122 by omega, show ¬ (130 ≤ j ∧ j < 130 + 17) by omega, show ¬ (150 ≤ j ∧ j < 150 + 17) by omega, if_false]
    · subst hk; rfl
    · subst hk; rfl
    · subst hk; rfl
    · subst hk; rfl
    · subst hk; rfl
    · subst hk; rfl
    · subst hk; rfl
    · subst hk; rfl
    · subst hk; rfl
    · subst hk
      show Sum.inl (cI, 8, Sum.inl (rI 31 100)) = _
      rw [rI_n (f := 100) (by decide) 31]
      rfl
    · subst hk; rfl
    · subst hk; rfl
    · subst hk
      show Sum.inl (cB, 400, Sum.inl (fun i => (rI 31 60 i).toInt8.toInt32)) = _
      rw [rI_n (f := 60) (by decide) 31]
      rfl
    · subst hk
      show Sum.inl (cI, 31, Sum.inl (rI 31 2)) = _
      rw [hI.1]
      rfl
    · subst hk
      show Sum.inl (cI, 31, Sum.inl (rI 31 3)) = _
      rw [hI.2.1]
      rfl
    · subst hk
      show Sum.inl (cI, 31, Sum.inl (rI 31 4)) = _
      rw [hI.2.2.1]
      rfl
    · subst hk
      show Sum.inl (cI, 31, Sum.inl (rI 31 5)) = _
      rw [hI.2.2.2]
      rfl
    · subst hk
      show Sum.inl (cI, 12, Sum.inl (rI 31 58)) = _
      rw [rI_n (f := 58) (by decide) 31]
      rfl
    · subst hk
      show Sum.inl (cI, 12, Sum.inl (rI 31 59)) = _
      rw [rI_n (f := 59) (by decide) 31]
      rfl
    · subst hk; rfl
    · subst hk; rfl
    · subst hk
      show Sum.inl (cI, 17, Sum.inl (rI 31 101)) = _
      rw [rI_n (f := 101) (by decide) 31]
      rfl
    · subst hk
      show Sum.inl (cI, 17, Sum.inl (rI 31 102)) = _
      rw [rI_n (f := 102) (by decide) 31]
      rfl
    · obtain ⟨i, rfl⟩ : ∃ i, j = 130 + i := ⟨j - 130, by omega⟩
      rw [kJ_rw (by omega), rI_n (by omega) 31]
      simp only [va_up, show ¬ 130 + i = 100 by omega, show ¬ 130 + i = 101 by omega, show ¬ 130 + i = 102 by omega, show ¬ 130 + i = 103 by omega, show ¬ 130 + i = 104 by omega, show ¬ 130 + i = 105 by omega, show ¬ 130 + i = 106 by omega, show ¬ 130 + i = 107 by omega, show ¬ 130 + i = 108 by omega, show ¬ 130 + i = 109 by omega, show ¬ 130 + i = 110 by omega, show ¬ 130 + i = 111 by omega, show ¬ 130 + i = 112 by omega, show ¬ 130 + i = 113 by omega, show ¬ 130 + i = 114 by omega, show ¬ 130 + i = 115 by omega, show ¬ 130 + i = 116 by omega, show ¬ 130 + i = 117 by omega, show ¬ 130 + i = 118 by omega, show ¬ 130 + i = 119 by omega, show ¬ 130 + i = 120 by omega, show ¬ 130 + i = 121 by omega, show ¬ 130 + i = 122 by omega, show (130 ≤ 130 + i ∧ 130 + i < 130 + 17) by omega, show ¬ (150 ≤ 130 + i ∧ 130 + i < 150 + 17) by omega, if_false, if_true, and_self]
    · obtain ⟨i, rfl⟩ : ∃ i, j = 150 + i := ⟨j - 150, by omega⟩
      rw [kJ_rd (by omega), rI_n (by omega) 31]
      simp only [va_up, show ¬ 150 + i = 100 by omega, show ¬ 150 + i = 101 by omega, show ¬ 150 + i = 102 by omega, show ¬ 150 + i = 103 by omega, show ¬ 150 + i = 104 by omega, show ¬ 150 + i = 105 by omega, show ¬ 150 + i = 106 by omega, show ¬ 150 + i = 107 by omega, show ¬ 150 + i = 108 by omega, show ¬ 150 + i = 109 by omega, show ¬ 150 + i = 110 by omega, show ¬ 150 + i = 111 by omega, show ¬ 150 + i = 112 by omega, show ¬ 150 + i = 113 by omega, show ¬ 150 + i = 114 by omega, show ¬ 150 + i = 115 by omega, show ¬ 150 + i = 116 by omega, show ¬ 150 + i = 117 by omega, show ¬ 150 + i = 118 by omega, show ¬ 150 + i = 119 by omega, show ¬ 150 + i = 120 by omega, show ¬ 150 + i = 121 by omega, show ¬ 150 + i = 122 by omega, show ¬ (130 ≤ 150 + i ∧ 150 + i < 130 + 17) by omega, show (150 ≤ 150 + i ∧ 150 + i < 150 + 17) by omega, if_false, if_true, and_self]
