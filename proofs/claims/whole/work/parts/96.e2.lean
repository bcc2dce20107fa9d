/-! what holds at the law's entry -/
theorem en_df : ∀ i, i < 30 → ∀ j, j < 30 → i ≠ j → ¬ (kLen.getD i 0 = kLen.getD j 0 ∧ ∀ k, k < kLen.getD i 0 → (kByt.getD i []).getD k 0 = (kByt.getD j []).getD k 0) := by decide +kernel
theorem en_ll : ∀ i, i < 30 → kLen.getD i 0 < 100 := by decide +kernel
theorem va_OF.fn {o n d : String} {v w : Value} {a : Nat} {A : Nat → Prop} {U : State} {H : Heap} (h1 : va_OF o n d v a A U H) (h2 : va_OF o n d w a A U H) : v = w := by
  obtain ⟨cf, k, fi, f, cell, a1, a2, a3, a4, a5, -⟩ := h1
  obtain ⟨cf', k', fi', f', cell', b1, b2, b3, b4, b5, -⟩ := h2
  rw [a1] at b1
  cases b1
  rw [a3] at b3
  cases b3
  rw [a5] at b5
  cases b5
  rfl
theorem en_S {args : Array Value} {s : State} {A : Nat → Prop} (hfl : ∀ w ∈ en_fl, w.before args s = true) (hA : ∀ a : Nat, a < s.heap.size → ¬ A a) : ∃ adK adV : Nat → Nat, vk_S 30 kLen kByt adK adV A s s.heap ∧ ∀ i : Nat, i < 30 → (en_tm i).eval args s none [] s = some (.ref (adK i)) := by
  have hw : ∀ i, i < 30 → ∀ w ∈ en_sws i, w.before args s = true := fun i hi w h => hfl w (en_sw i hi w h)
  have h0 : ∀ i : Nat, ∃ q : Nat × Nat, i < 30 → (en_tm i).eval args s none [] s = some (.ref q.1) ∧ va_O "java/lang/String" q.1 A s s.heap ∧ va_OF "java/lang/String" "coder" "B" (.int 0) q.1 A s s.heap ∧ va_OF "java/lang/String" "value" "[B" (.ref q.2) q.1 A s s.heap ∧ va_T .byte q.2 (kLen.getD i 0) (fun j => .int ((kByt.getD i []).getD j 0)) A s s.heap := by
    intro i
    by_cases hi : i < 30
    · have hex : (Cond.exactly (en_tm i) "java/lang/String").before args s = true := hw i hi _ (List.mem_append_left _ (by simp))
      have hco : (Cond.eq (.field (en_tm i) "java/lang/String" "coder" "B") (.int 0)).before args s = true := hw i hi _ (List.mem_append_left _ (by simp))
      have har : (Cond.arrayOf (en_va i) .byte).before args s = true := hw i hi _ (List.mem_append_left _ (by simp))
      have hle : (Cond.eq (.length (en_va i)) (.int (Int32.ofNat (kLen.getD i 0)))).before args s = true := hw i hi _ (List.mem_append_left _ (by simp))
      have hel : ∀ j, j < kLen.getD i 0 → (Cond.eq (.elem (en_va i) (.int (Int32.ofNat j))) (.int ((kByt.getD i []).getD j 0))).before args s = true := fun j hj => hw i hi _ (List.mem_append_right _ (List.mem_map.mpr ⟨j, List.mem_range.mpr hj, rfl⟩))
      have hN := en_ll i hi
      obtain ⟨a, c, cA, kA, q1, q2, q3, q4, q5, q6, -⟩ := Cond.exactly_spec (args := args) (first := s) (o := none) (s := s) (idx := []) (t := en_tm i) (cls := "java/lang/String") hex
      obtain ⟨t, ht, hT⟩ := va_Tof (f := fun j => .int ((kByt.getD i []).getD j 0)) (A := A) (by omega) har (va_eqt hle) (fun j hj => va_eqt (hel j hj)) hA
      exact ⟨(a, t), fun _ => ⟨q1, ⟨cA, q3, q5, by rw [q6]; exact q2, hA a (Array.getElem?_eq_some_iff.mp q3).1⟩, vk_OFof q1 (va_eqt hco) hA, vk_OFof q1 ht hA, hT⟩⟩
    · exact ⟨(0, 0), fun h => absurd h hi⟩
  obtain ⟨ad, had⟩ : ∃ ad : Nat → Nat × Nat, ∀ i, i < 30 → (en_tm i).eval args s none [] s = some (.ref (ad i).1) ∧ va_O "java/lang/String" (ad i).1 A s s.heap ∧ va_OF "java/lang/String" "coder" "B" (.int 0) (ad i).1 A s s.heap ∧ va_OF "java/lang/String" "value" "[B" (.ref (ad i).2) (ad i).1 A s s.heap ∧ va_T .byte (ad i).2 (kLen.getD i 0) (fun j => .int ((kByt.getD i []).getD j 0)) A s s.heap := ⟨fun i => Classical.choose (h0 i), fun i => Classical.choose_spec (h0 i)⟩
  refine ⟨fun i => (ad i).1, fun i => (ad i).2, ⟨fun i hi => (had i hi).2, fun i j hi hj e => ?_⟩, fun i hi => (had i hi).1⟩
  by_cases hij : i = j
  · exact hij
  · refine absurd ?_ (en_df i hi j hj hij)
    have e : (ad i).1 = (ad j).1 := e
    have o1 := (had i hi).2.2.2.1
    have o2 := (had j hj).2.2.2.1
    rw [← e] at o2
    have ev := va_OF.fn o1 o2
    have e2 : (ad i).2 = (ad j).2 := by injection ev
    obtain ⟨cell, a1, -, -, a2, a3, a4, -⟩ := (had i hi).2.2.2.2
    obtain ⟨cell', b1, -, -, b2, b3, b4, -⟩ := (had j hj).2.2.2.2
    rw [← e2, a1] at b1
    cases b1
    have l1 := en_ll i hi
    have l2 := en_ll j hj
    have el : kLen.getD i 0 = kLen.getD j 0 := (nI_eq (by omega) (by omega)).mp (a3.symm.trans b3)
    refine ⟨el, fun k hk => ?_⟩
    have z := (a4 k hk).symm.trans (b4 k (by omega))
    injection z with z
    injection z
theorem en_ar {args : Array Value} {s : State} {ty : FieldType} (h : (Cond.arrayClass ty).before args s = true) : ∃ cA, ArrOfT s cA ty ∧ s.vm.findClass ("[" ++ ty.toString) = some cA := by
  obtain ⟨c, k, comp, h1, h2, h3⟩ := Cond.arrayClass_spec (args := args) (first := s) (s := s) (o := none) (idx := []) h
  exact ⟨c, fun n z => ⟨fun k h => (by cases h), k, h2, comp, h3⟩, h1⟩
theorem en_K {args : Array Value} {s : State} (hts : ∀ w ∈ lw_tbl, w.before args s = true) : ∃ (D : va_G) (cI cZ cB cO cR cJ : ClassId), va_K D vwCl (tyL cI cZ cB cO cR cJ) s := by
  have h1 : ∀ w ∈ en_one, w.before args s = true := fun w h => hts w (en_ones w h)
  obtain ⟨c0, d0, k0⟩ := u_known (C := RJx4a65c) (T := TJx4a65c) (N := 3) (n := 3) hts en_u0 (h1 _ (by decide +kernel))
  obtain ⟨c1, d1, k1⟩ := u_known (C := RX0) (T := TX0) (N := 3) (n := 3) hts en_u1 (h1 _ (by decide +kernel))
  obtain ⟨c2, d2, k2⟩ := u_known (C := RX1) (T := TX1) (N := 11) (n := 11) hts en_u2 (h1 _ (by decide +kernel))
  obtain ⟨c3, d3, k3⟩ := u_known (C := RX2) (T := TX2) (N := 6) (n := 6) hts en_u3 (h1 _ (by decide +kernel))
  obtain ⟨c4, d4, k4⟩ := u_known (C := RX3) (T := TX3) (N := 7) (n := 7) hts en_u4 (h1 _ (by decide +kernel))
  obtain ⟨c5, d5, k5⟩ := u_known (C := RX4) (T := TX4) (N := 12) (n := 12) hts en_u5 (h1 _ (by decide +kernel))
  obtain ⟨c6, d6, k6⟩ := u_known (C := RX5) (T := TX5) (N := 4) (n := 4) hts en_u6 (h1 _ (by decide +kernel))
  obtain ⟨c7, d7, k7⟩ := u_known (C := RX6) (T := TX6) (N := 11) (n := 11) hts en_u7 (h1 _ (by decide +kernel))
  obtain ⟨c8, d8, k8⟩ := u_known (C := RX7) (T := TX7) (N := 5) (n := 5) hts en_u8 (h1 _ (by decide +kernel))
  obtain ⟨c9, d9, k9⟩ := u_known (C := RX8) (T := TX8) (N := 3) (n := 3) hts en_u9 (h1 _ (by decide +kernel))
  obtain ⟨c10, d10, k10⟩ := u_known (C := RX9) (T := TX9) (N := 14) (n := 14) hts en_u10 (h1 _ (by decide +kernel))
  obtain ⟨c11, d11, k11⟩ := u_known (C := RX10) (T := TX10) (N := 69) (n := 69) hts en_u11 (h1 _ (by decide +kernel))
  obtain ⟨cI, aI, bI⟩ := en_ar (ty := .int) (h1 _ (by decide +kernel))
  obtain ⟨cZ, aZ, bZ⟩ := en_ar (ty := .boolean) (h1 _ (by decide +kernel))
  obtain ⟨cB, aB, bB⟩ := en_ar (ty := .byte) (h1 _ (by decide +kernel))
  obtain ⟨cJ, aJ, bJ⟩ := en_ar (ty := .long) (h1 _ (by decide +kernel))
  obtain ⟨pO, cO, kO, o1, -, o3, o4, o5⟩ := Cond.arrayOver_spec (args := args) (first := s) (s := s) (o := none) (idx := []) (n := "java/lang/Object") (h1 (.arrayOver (.object "java/lang/Object")) (by decide +kernel))
  obtain ⟨pR, cR, kR, r1, r3, r4, r5⟩ := Cond.arrayOver_specA (args := args) (first := s) (s := s) (o := none) (idx := []) (t := .int) (h1 (.arrayOver (.array .int)) (by decide +kernel))
  refine ⟨(fun k => match k with | 0 => c0 | 1 => c1 | 2 => c2 | 3 => c3 | 4 => c4 | 5 => c5 | 6 => c6 | 7 => c7 | 8 => c8 | 9 => c9 | 10 => c10 | _ => c11, fun k => match k with | 0 => d0 | 1 => d1 | 2 => d2 | 3 => d3 | 4 => d4 | 5 => d5 | 6 => d6 | 7 => d7 | 8 => d8 | 9 => d9 | 10 => d10 | _ => d11), cI, cZ, cB, cO, cR, cJ, fun k q hq => ?_, fun k q hq => ?_⟩
  · match k, hq with
    | 0, hq => cases hq; exact k0
    | 1, hq => cases hq; exact k1
    | 2, hq => cases hq; exact k2
    | 3, hq => cases hq; exact k3
    | 4, hq => cases hq; exact k4
    | 5, hq => cases hq; exact k5
    | 6, hq => cases hq; exact k6
    | 7, hq => cases hq; exact k7
    | 8, hq => cases hq; exact k8
    | 9, hq => cases hq; exact k9
    | 10, hq => cases hq; exact k10
    | 11, hq => cases hq; exact k11
    | k + 12, hq => simp at hq
  · match k, hq with
    | 0, hq => cases hq; exact ⟨aI, bI⟩
    | 1, hq => cases hq; exact ⟨aZ, bZ⟩
    | 2, hq => cases hq; exact ⟨aB, bB⟩
    | 3, hq => cases hq; exact ⟨fun n z => ⟨fun k h => (by cases h), kO, o3, pO, o4⟩, kO, pO, o3, o4, o1, o5⟩
    | 4, hq => cases hq; exact ⟨fun n z => ⟨fun k h => (by cases h), kR, r3, pR, r4⟩, r5⟩
    | 5, hq => cases hq; exact ⟨aJ, bJ⟩
    | k + 6, hq => simp at hq
theorem en_N {args : Array Value} {s : State} (hfl : ∀ w ∈ en_fl, w.before args s = true) : hNc s := by
  have hp : ∀ E ∈ hN5, ∀ F ∈ hN5, E ≠ F → (E, F) ∈ en_cs := by decide +kernel
  exact fun E hE F hF n => va_Nc.of (args := args) (hfl _ (en_css _ (List.mem_map.mpr ⟨(E, F), hp E hE F hF n, rfl⟩)))
theorem en_E {args : Array Value} {s : State} (hts : ∀ w ∈ lw_tbl, w.before args s = true) (hfl : ∀ w ∈ en_fl, w.before args s = true) : ∃ K : kTx, kE s.heap K s := by
  have h1 : ∀ w ∈ en_one, w.before args s = true := fun w h => hts w (en_ones w h)
  have h2 : ∀ w ∈ en_two, w.before args s = true := fun w h => hfl w (en_twos w h)
  have hA : ∀ a : Nat, a < s.heap.size → ¬ gA s.heap a := fun a h q => by unfold gA at q; omega
  obtain ⟨adK, adV, hS, hev⟩ := en_S (A := gA s.heap) hfl hA
  obtain ⟨t, ht, hT⟩ := va_Tof (args := args) (s := s) (tm := .static "java/util/ArrayList" "DEFAULTCAPACITY_EMPTY_ELEMENTDATA" "[Ljava/lang/Object;") (ty := .object "java/lang/Object") (N := 0) (f := fun _ => .null) (A := gA s.heap) (by decide) (h2 _ (by decide +kernel)) (va_eqt (h2 _ (by decide +kernel))) (fun j hj => absurd hj (Nat.not_lt_zero j)) hA
  obtain ⟨mi, hmi⟩ := va_Mi.of (args := args) (s := s) (C := "[Ljava/lang/Object;") (h2 _ (by decide +kernel))
  refine ⟨(adK, adV, t, mi), fun q hq => va_Nw.of rfl (hts _ (en_nf _ (List.mem_map.mpr ⟨q, hq, rfl⟩))), fun q hq => va_Nw.of rfl (hts _ (en_nm _ (List.mem_map.mpr ⟨q, hq, rfl⟩))), fun q hq => va_Nw.of rfl (hts _ (en_nc _ (List.mem_map.mpr ⟨q, hq, rfl⟩))), fun q hq => va_Nw.of rfl (hts _ (en_nd _ (List.mem_map.mpr ⟨q, hq, rfl⟩))), fun i q hq => ?_, ?_, ?_, ?_, ?_, ?_, hT, hmi, va_AO.of (h1 _ (by decide +kernel)), va_Dc.of (h1 _ (by decide +kernel)), hS⟩
  · have hi : i < 30 := (List.getElem?_eq_some_iff.mp hq).1
    have e := hev i hi
    have et : en_tm i = .string q.1 q.2.1 := by unfold en_tm; rw [hq]
    rw [et] at e
    exact vk_R.of (A := args) (hts _ (en_st _ (List.mem_map.mpr ⟨q, List.mem_of_getElem? hq, rfl⟩))) e
  · exact vx_Zqof (args := args) (C := "java/lang/Throwable") (n := "UNASSIGNED_STACK") (d := "[Ljava/lang/StackTraceElement;") (h1 _ (by decide +kernel)) (h1 _ (by decide +kernel)) (h2 _ (by decide +kernel)) hA
  · exact vx_Zqof (args := args) (C := "java/lang/Throwable") (n := "SUPPRESSED_SENTINEL") (d := "Ljava/util/List;") (h1 _ (by decide +kernel)) (h1 _ (by decide +kernel)) (h2 _ (by decide +kernel)) hA
  · exact va_Zof (args := args) (h1 _ (by decide +kernel)) (h1 _ (by decide +kernel)) (va_eqi (h2 _ (by decide +kernel))) hA
  · exact va_Zqof (args := args) (h1 _ (by decide +kernel)) (h1 _ (by decide +kernel)) (h2 _ (by decide +kernel)) hA
  · exact va_Zof (args := args) (h1 _ (by decide +kernel)) (h1 _ (by decide +kernel)) ht hA
