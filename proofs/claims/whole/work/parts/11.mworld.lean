/-! THE REFERENCE's WORLD: key 0 its object, key f+1 the array of its field f; s its ints by field, r its arrays by field -/
def mLen : Nat → Nat := fun k => match k with
  | 2 => 31
  | 3 => 31
  | 4 => 31
  | 5 => 31
  | 7 => 20
  | 8 => 20
  | 9 => 20
  | 10 => 20
  | 11 => 20
  | 12 => 20
  | 13 => 20
  | 15 => 60
  | 16 => 60
  | 17 => 60
  | 18 => 60
  | 19 => 60
  | 20 => 60
  | 21 => 60
  | 22 => 60
  | 23 => 60
  | 24 => 60
  | 25 => 60
  | 27 => 12
  | 28 => 12
  | 29 => 12
  | 30 => 12
  | 31 => 12
  | 32 => 12
  | 33 => 12
  | 34 => 12
  | 35 => 12
  | 36 => 12
  | 37 => 12
  | 38 => 12
  | 41 => 60
  | 42 => 60
  | 43 => 60
  | 44 => 60
  | 45 => 60
  | 46 => 60
  | 47 => 60
  | 48 => 60
  | 49 => 60
  | 50 => 60
  | 51 => 60
  | 54 => 20
  | 55 => 20
  | 56 => 240
  | 58 => 12
  | 59 => 12
  | 60 => 400
  | 65 => 6
  | 66 => 5
  | 67 => 4096
  | 68 => 8
  | _ => 0
def mF (ad : Nat → Nat) (s : Nat → Int32) : List Value := [.int (s 0), .int (s 1), .ref (ad 3), .ref (ad 4), .ref (ad 5), .ref (ad 6), .int (s 6), .ref (ad 8), .ref (ad 9), .ref (ad 10), .ref (ad 11), .ref (ad 12), .ref (ad 13), .ref (ad 14), .int (s 14), .ref (ad 16), .ref (ad 17), .ref (ad 18), .ref (ad 19), .ref (ad 20), .ref (ad 21), .ref (ad 22), .ref (ad 23), .ref (ad 24), .ref (ad 25), .ref (ad 26), .int (s 26), .ref (ad 28), .ref (ad 29), .ref (ad 30), .ref (ad 31), .ref (ad 32), .ref (ad 33), .ref (ad 34), .ref (ad 35), .ref (ad 36), .ref (ad 37), .ref (ad 38), .ref (ad 39), .int (s 39), .int (s 40), .ref (ad 42), .ref (ad 43), .ref (ad 44), .ref (ad 45), .ref (ad 46), .ref (ad 47), .ref (ad 48), .ref (ad 49), .ref (ad 50), .ref (ad 51), .ref (ad 52), .int (s 52), .int (s 53), .ref (ad 55), .ref (ad 56), .ref (ad 57), .int (s 57), .ref (ad 59), .ref (ad 60), .ref (ad 61), .int (s 61), .int (s 62), .int (s 63), .int (s 64), .ref (ad 66), .ref (ad 67), .ref (ad 68), .ref (ad 69)]
def mIs (f : Nat) : Bool := [0, 1, 6, 14, 26, 39, 40, 52, 53, 57, 61, 62, 63, 64].contains f
def mIa (f : Nat) : Bool := [2, 3, 4, 5, 7, 8, 9, 10, 11, 12, 13, 15, 16, 17, 18, 19, 20, 21, 22, 23, 24, 25, 27, 28, 29, 30, 31, 32, 33, 34, 35, 36, 37, 38, 41, 42, 43, 45, 46, 47, 48, 49, 50, 51, 54, 55, 56, 58, 59, 60, 65, 67, 68].contains f
def mIz (f : Nat) : Bool := [44, 66].contains f
def mKey (k : Nat) : Bool := k == 0 || (0 < k && (mIa (k - 1) || mIz (k - 1)))
def mC (ad : Nat → Nat) (cI cZ : ClassId) (s : Nat → Int32) (r : Nat → Nat → Int32) : Nat → va_E := fun k => if k = 0 then .inr (11, mF ad s) else if mIz (k - 1) = true then .inl (cZ, mLen (k - 1), .inl (r (k - 1))) else .inl (cI, mLen (k - 1), .inl (r (k - 1)))
def mJ (ce0 : Nat → va_E) (ad : Nat → Nat) (cI cZ : ClassId) (s : Nat → Int32) (r : Nat → Nat → Int32) : Nat → va_E := fun k => if k < 70 then mC ad cI cZ s r k else ce0 k
abbrev tyL (cI cZ cB cO cR cJ : ClassId) : List (ClassId × FieldType) := [(cI, .int), (cZ, .boolean), (cB, .byte), (cO, .object "java/lang/Object"), (cR, .array .int), (cJ, .long)]
def lM (lv : Nat → Prop) : Prop := ∀ k, mKey k = true → lv k
/-- the array of number f gets x at the place i -/
def up2 (r : Nat → Nat → Int32) (f i : Nat) (x : Int32) : Nat → Nat → Int32 := va_up r f (upd (r f) i x)
theorem up2_ss (r : Nat → Nat → Int32) (f i : Nat) (x : Int32) : up2 r f i x f i = x := by simp [up2, va_up, upd]
theorem up2_sn (r : Nat → Nat → Int32) (f : Nat) {i j : Nat} (x : Int32) (h : j ≠ i) : up2 r f i x f j = r f j := by simp [up2, va_up, upd, h]
theorem up2_n (r : Nat → Nat → Int32) {f g : Nat} (i j : Nat) (x : Int32) (h : g ≠ f) : up2 r f i x g j = r g j := by simp [up2, va_up, h]
theorem up2_nn (r : Nat → Nat → Int32) {f g : Nat} (i : Nat) (x : Int32) (h : g ≠ f) : up2 r f i x g = r g := by simp [up2, va_up, h]
theorem up2_e (r : Nat → Nat → Int32) (f i : Nat) (x : Int32) (g j : Nat) : up2 r f i x g j = if g = f ∧ j = i then x else r g j := by by_cases h : g = f <;> by_cases h2 : j = i <;> simp [up2, va_up, upd, h, h2]
theorem mJ_0 (ce0 : Nat → va_E) (ad : Nat → Nat) (cI cZ : ClassId) (s : Nat → Int32) (r : Nat → Nat → Int32) : mJ ce0 ad cI cZ s r 0 = .inr (11, mF ad s) := rfl
theorem mIa_lt : ∀ f, mIa f = true → f < 69 := fun f h => by simp [mIa] at h; omega
theorem mIz_lt : ∀ f, mIz f = true → f < 69 := fun f h => by simp [mIz] at h; omega
theorem mIs_lt : ∀ f, mIs f = true → f < 69 := fun f h => by simp [mIs] at h; omega
theorem mIa_z : ∀ f, mIa f = true → mIz f = false := fun f h => by simp [mIa] at h; rcases h with rfl | rfl | rfl | rfl | rfl | rfl | rfl | rfl | rfl | rfl | rfl | rfl | rfl | rfl | rfl | rfl | rfl | rfl | rfl | rfl | rfl | rfl | rfl | rfl | rfl | rfl | rfl | rfl | rfl | rfl | rfl | rfl | rfl | rfl | rfl | rfl | rfl | rfl | rfl | rfl | rfl | rfl | rfl | rfl | rfl | rfl | rfl | rfl | rfl | rfl | rfl | rfl | rfl <;> rfl
theorem mJ_a (ce0 : Nat → va_E) (ad : Nat → Nat) (cI cZ : ClassId) (s : Nat → Int32) (r : Nat → Nat → Int32) {f : Nat} (h : mIa f = true) : mJ ce0 ad cI cZ s r (f + 1) = .inl (cI, mLen f, .inl (r f)) := by have := mIa_lt f h; simp [mJ, mC, mIa_z f h]; omega
theorem mJ_z (ce0 : Nat → va_E) (ad : Nat → Nat) (cI cZ : ClassId) (s : Nat → Int32) (r : Nat → Nat → Int32) {f : Nat} (h : mIz f = true) : mJ ce0 ad cI cZ s r (f + 1) = .inl (cZ, mLen f, .inl (r f)) := by have := mIz_lt f h; simp [mJ, mC, h]; omega
theorem mF_len (ad : Nat → Nat) (s : Nat → Int32) : (mF ad s).length = 69 := rfl
theorem mF_get (ad : Nat → Nat) (s : Nat → Int32) {f : Nat} (h : mIs f = true) : (mF ad s)[f]? = some (.int (s f)) := by simp [mIs] at h; rcases h with rfl | rfl | rfl | rfl | rfl | rfl | rfl | rfl | rfl | rfl | rfl | rfl | rfl | rfl <;> rfl
theorem mF_geta (ad : Nat → Nat) (s : Nat → Int32) {f : Nat} (h : (mIa f || mIz f) = true) : (mF ad s)[f]? = some (.ref (ad (f + 1))) := by simp [mIa, mIz] at h; rcases h with (rfl | rfl | rfl | rfl | rfl | rfl | rfl | rfl | rfl | rfl | rfl | rfl | rfl | rfl | rfl | rfl | rfl | rfl | rfl | rfl | rfl | rfl | rfl | rfl | rfl | rfl | rfl | rfl | rfl | rfl | rfl | rfl | rfl | rfl | rfl | rfl | rfl | rfl | rfl | rfl | rfl | rfl | rfl | rfl | rfl | rfl | rfl | rfl | rfl | rfl | rfl | rfl | rfl) | (rfl | rfl) <;> rfl
theorem mF_set (ad : Nat → Nat) (s : Nat → Int32) {f : Nat} (h : mIs f = true) (v : Int32) : (mF ad s).set f (.int v) = mF ad (upd s f v) := by simp [mIs] at h; rcases h with rfl | rfl | rfl | rfl | rfl | rfl | rfl | rfl | rfl | rfl | rfl | rfl | rfl | rfl <;> rfl
theorem mJ_put (ce0 : Nat → va_E) (ad : Nat → Nat) (cI cZ : ClassId) (s : Nat → Int32) (r : Nat → Nat → Int32) {f : Nat} (h : mIs f = true) (v : Int32) : va_up (mJ ce0 ad cI cZ s r) 0 (.inr (11, (mF ad s).set f (.int v))) = mJ ce0 ad cI cZ (upd s f v) r := by
  funext k
  by_cases hk : k = 0
  · subst hk; rw [va_up_self, mF_set ad s h]; rfl
  · rw [va_up_ne _ _ hk]; simp [mJ, mC, hk]
theorem mJ_ast (ce0 : Nat → va_E) (ad : Nat → Nat) (cI cZ : ClassId) (s : Nat → Int32) (r : Nat → Nat → Int32) {f : Nat} (h : mIa f = true) (g : Nat → Int32) : va_up (mJ ce0 ad cI cZ s r) (f + 1) (.inl (cI, mLen f, .inl g)) = mJ ce0 ad cI cZ s (va_up r f g) := by
  funext k
  have := mIa_lt f h
  by_cases hk : k = f + 1
  · subst hk; rw [va_up_self, mJ_a _ _ _ _ _ _ h, va_up_self]
  · rw [va_up_ne _ _ hk]; by_cases h0 : k = 0
    · subst h0; rfl
    · simp [mJ, mC, h0, va_up, show ¬ k - 1 = f by omega]
theorem mJ_zst (ce0 : Nat → va_E) (ad : Nat → Nat) (cI cZ : ClassId) (s : Nat → Int32) (r : Nat → Nat → Int32) {f : Nat} (h : mIz f = true) (g : Nat → Int32) : va_up (mJ ce0 ad cI cZ s r) (f + 1) (.inl (cZ, mLen f, .inl g)) = mJ ce0 ad cI cZ s (va_up r f g) := by
  funext k
  have := mIz_lt f h
  by_cases hk : k = f + 1
  · subst hk; rw [va_up_self, mJ_z _ _ _ _ _ _ h, va_up_self]
  · rw [va_up_ne _ _ hk]; by_cases h0 : k = 0
    · subst h0; rfl
    · simp [mJ, mC, h0, va_up, show ¬ k - 1 = f by omega]
theorem lM.a {lv : Nat → Prop} (h : lM lv) {f : Nat} (hf : (mIa f || mIz f) = true) : lv (f + 1) := h (f + 1) (by simp [mKey]; simpa using hf)
theorem lM.z {lv : Nat → Prop} (h : lM lv) : lv 0 := h 0 rfl
theorem tyX10_s : ∀ f, mIs f = true → parseFieldDescriptor (TX10 f).2.2.1 = some .int ∧ (TX10 f).2.2.2 = false := fun f h => by simp [mIs] at h; rcases h with rfl | rfl | rfl | rfl | rfl | rfl | rfl | rfl | rfl | rfl | rfl | rfl | rfl | rfl <;> decide +kernel
section MRW
variable {p : Program} {l : Launch} {e : Env} {R : Room} {s : State} {m : MethodId} {args : Array Value} {below : List Frame} {meth : Method} {c : Code} {H : Heap} {locs : List Loc} {cells slots : Nat} {Q : State → Prop}
variable {cc : ByteArray} {pc nL : Nat} {ls : Array Slot} {rest st0 : List Value} {D : va_G} {cI cZ cB cO cR cJ : ClassId} {Hb : Heap} {lv : Nat → Prop} {ad : Nat → Nat} {ce0 : Nat → va_E} {Ts : List Cond} {sm : Nat → Int32} {rm : Nat → Nat → Int32}
/-- what a method of the reference has at hand -/
def mX (p : Program) (m : MethodId) (c : Code) (cc : ByteArray) (nL : Nat) (s : State) (args : Array Value) (Ts : List Cond) (D : va_G) (cI cZ cB cO cR cJ : ClassId) (lv : Nat → Prop) : Prop := CallFix p m c cc nL s args Ts RX10 ∧ va_K D vwCl (tyL cI cZ cB cO cR cJ) s ∧ (∀ w ∈ wsX100, w ∈ Ts) ∧ lM lv
theorem m_gi (S : mX p m c cc nL s args Ts D cI cZ cB cO cR cJ lv) (hG : gW D Hb lv ad (mJ ce0 ad cI cZ sm rm) H) {index : Nat} (f : Nat) (hf : mIs f = true) (hlink : (Cond.fieldLink RX10 index RX10 (TX10 f).2.1 (TX10 f).2.2.1).before args s = true) (hdg : decode cc pc = .ok (.getfield index, 3)) {v : Int32} (hv : sm f = v)
    (kk : W p l e R s m args below meth c H locs cells slots Q (F0 m (pc + 3) ls (.int v :: rest))) : W p l e R s m args below meth c H locs cells slots Q (F0 m pc ls (.ref (ad 0) :: rest)) :=
  g_get S.1 S.2.1 hG S.2.2.1 0 S.2.2.2.z (mJ_0 ..) rfl f (mIs_lt f hf) hlink (by have h1 : (TX10 f).1 = RX10 := (by simp [mIs] at hf; rcases hf with rfl | rfl | rfl | rfl | rfl | rfl | rfl | rfl | rfl | rfl | rfl | rfl | rfl | rfl <;> rfl); rw [h1]; exact fun _ h => h) (by rw [mF_get ad sm hf, hv]) hdg kk
theorem m_ga (S : mX p m c cc nL s args Ts D cI cZ cB cO cR cJ lv) (hG : gW D Hb lv ad (mJ ce0 ad cI cZ sm rm) H) {index : Nat} (f : Nat) (hf : (mIa f || mIz f) = true) (hlink : (Cond.fieldLink RX10 index RX10 (TX10 f).2.1 (TX10 f).2.2.1).before args s = true) (hdg : decode cc pc = .ok (.getfield index, 3))
    (kk : W p l e R s m args below meth c H locs cells slots Q (F0 m (pc + 3) ls (.ref (ad (f + 1)) :: rest))) : W p l e R s m args below meth c H locs cells slots Q (F0 m pc ls (.ref (ad 0) :: rest)) :=
  g_get S.1 S.2.1 hG S.2.2.1 0 S.2.2.2.z (mJ_0 ..) rfl f (by simp only [Bool.or_eq_true] at hf; rcases hf with h | h; exact mIa_lt f h; exact mIz_lt f h) hlink (by have h1 : (TX10 f).1 = RX10 := (by simp [mIa, mIz] at hf; rcases hf with (rfl | rfl | rfl | rfl | rfl | rfl | rfl | rfl | rfl | rfl | rfl | rfl | rfl | rfl | rfl | rfl | rfl | rfl | rfl | rfl | rfl | rfl | rfl | rfl | rfl | rfl | rfl | rfl | rfl | rfl | rfl | rfl | rfl | rfl | rfl | rfl | rfl | rfl | rfl | rfl | rfl | rfl | rfl | rfl | rfl | rfl | rfl | rfl | rfl | rfl | rfl | rfl | rfl) | (rfl | rfl) <;> rfl); rw [h1]; exact fun _ h => h) (mF_geta ad sm hf) hdg kk
theorem m_pi (S : mX p m c cc nL s args Ts D cI cZ cB cO cR cJ lv) (hG : gW D Hb lv ad (mJ ce0 ad cI cZ sm rm) H) (hL : gL Hb locs) {index : Nat} (f : Nat) (hf : mIs f = true) (hlink : (Cond.fieldLink RX10 index RX10 (TX10 f).2.1 (TX10 f).2.2.1).before args s = true) (hdg : decode cc pc = .ok (.putfield index, 3)) {v : Int32}
    (kk : ∀ (H1 : Heap) (locs1 : List Loc), gW D Hb lv ad (mJ ce0 ad cI cZ (upd sm f v) rm) H1 → gL Hb locs1 → W p l e R s m args below meth c H1 locs1 cells slots Q (F0 m (pc + 3) ls rest)) : W p l e R s m args below meth c H locs cells slots Q (F0 m pc ls (.int v :: .ref (ad 0) :: rest)) :=
  g_put S.1 S.2.1 hG hL S.2.2.1 tyX10 tyX10_ok nmX10 0 S.2.2.2.z (mJ_0 ..) rfl f (mIs_lt f hf) hlink (by have h1 : (TX10 f).1 = RX10 := (by simp [mIs] at hf; rcases hf with rfl | rfl | rfl | rfl | rfl | rfl | rfl | rfl | rfl | rfl | rfl | rfl | rfl | rfl <;> rfl); rw [h1]; exact fun _ h => h) (tyX10_s f hf).2 (tyX10_s f hf).1 rfl rfl (by rw [mF_len]; exact mIs_lt f hf) hdg (fun H1 locs1 hG1 hL1 => kk H1 locs1 (by rw [mJ_put _ _ _ _ _ _ hf] at hG1; exact hG1) hL1)
theorem m_ld (S : mX p m c cc nL s args Ts D cI cZ cB cO cR cJ lv) (hG : gW D Hb lv ad (mJ ce0 ad cI cZ sm rm) H) (f : Nat) (hf : mIa f = true) {i : Int32} (hin : vp_in i (mLen f)) (hdg : decode cc pc = .ok (.iaload, 1)) {v : Int32} (hv : rm f i.toNatClampNeg = v)
    (kk : W p l e R s m args below meth c H locs cells slots Q (F0 m (pc + 1) ls (.int v :: rest))) : W p l e R s m args below meth c H locs cells slots Q (F0 m pc ls (.int i :: .ref (ad (f + 1)) :: rest)) :=
  g_iald S.1 S.2.1 hG (f + 1) (S.2.2.2.a (by rw [hf]; rfl)) 0 (mJ_a _ _ _ _ _ _ hf) rfl hin hdg (by rw [hv]; exact kk)
theorem m_zld (S : mX p m c cc nL s args Ts D cI cZ cB cO cR cJ lv) (hG : gW D Hb lv ad (mJ ce0 ad cI cZ sm rm) H) (f : Nat) (hf : mIz f = true) {i : Int32} (hin : vp_in i (mLen f)) (hdg : decode cc pc = .ok (.baload, 1)) {v : Int32} (hv : rm f i.toNatClampNeg = v)
    (kk : W p l e R s m args below meth c H locs cells slots Q (F0 m (pc + 1) ls (.int v :: rest))) : W p l e R s m args below meth c H locs cells slots Q (F0 m pc ls (.int i :: .ref (ad (f + 1)) :: rest)) :=
  g_zald S.1 S.2.1 hG (f + 1) (S.2.2.2.a (by rw [hf]; cases mIa f <;> rfl)) 1 (mJ_z _ _ _ _ _ _ hf) rfl hin hdg (by rw [hv]; exact kk)
theorem m_st (S : mX p m c cc nL s args Ts D cI cZ cB cO cR cJ lv) (hG : gW D Hb lv ad (mJ ce0 ad cI cZ sm rm) H) (hL : gL Hb locs) (f : Nat) (hf : mIa f = true) {i x : Int32} (hin : vp_in i (mLen f)) (hdg : decode cc pc = .ok (.iastore, 1))
    (kk : ∀ (H1 : Heap) (locs1 : List Loc), gW D Hb lv ad (mJ ce0 ad cI cZ sm (up2 rm f i.toNatClampNeg x)) H1 → gL Hb locs1 → W p l e R s m args below meth c H1 locs1 cells slots Q (F0 m (pc + 1) ls rest)) : W p l e R s m args below meth c H locs cells slots Q (F0 m pc ls (.int x :: .int i :: .ref (ad (f + 1)) :: rest)) :=
  g_iast S.1 S.2.1 hG hL (f + 1) (S.2.2.2.a (by rw [hf]; rfl)) 0 (mJ_a _ _ _ _ _ _ hf) rfl hin hdg (fun H1 locs1 hG1 hL1 => kk H1 locs1 (by rw [mJ_ast _ _ _ _ _ _ hf] at hG1; exact hG1) hL1)
theorem m_zst (S : mX p m c cc nL s args Ts D cI cZ cB cO cR cJ lv) (hG : gW D Hb lv ad (mJ ce0 ad cI cZ sm rm) H) (hL : gL Hb locs) (f : Nat) (hf : mIz f = true) {i x : Int32} (hx : vp_nar .boolean x = x) (hin : vp_in i (mLen f)) (hdg : decode cc pc = .ok (.bastore, 1))
    (kk : ∀ (H1 : Heap) (locs1 : List Loc), gW D Hb lv ad (mJ ce0 ad cI cZ sm (up2 rm f i.toNatClampNeg x)) H1 → gL Hb locs1 → W p l e R s m args below meth c H1 locs1 cells slots Q (F0 m (pc + 1) ls rest)) : W p l e R s m args below meth c H locs cells slots Q (F0 m pc ls (.int x :: .int i :: .ref (ad (f + 1)) :: rest)) :=
  g_zast S.1 S.2.1 hG hL (f + 1) (S.2.2.2.a (by rw [hf]; cases mIa f <;> rfl)) 1 (mJ_z _ _ _ _ _ _ hf) rfl hin hdg (fun H1 locs1 hG1 hL1 => kk H1 locs1 (by rw [hx, mJ_zst _ _ _ _ _ _ hf] at hG1; exact hG1) hL1)
end MRW
