/-! the reference's constructor -/
def mAr : List Nat := [2, 3, 4, 5, 7, 8, 9, 10, 11, 12, 13, 15, 16, 17, 18, 19, 20, 21, 22, 23, 24, 25, 27, 28, 29, 30, 31, 32, 33, 34, 35, 36, 37, 38, 41, 42, 43, 44, 45, 46, 47, 48, 49, 50, 51, 54, 55, 56, 58, 59, 60, 65, 66, 67, 68]
def z0 : Nat → Nat → Int32 := fun _ _ => 0
def mT (j : Nat) (ad : Nat → Nat) (s : Nat → Int32) : List Value := [.int (s 0), .int (s 1), if 2 < j then .ref (ad 3) else .null, if 3 < j then .ref (ad 4) else .null, if 4 < j then .ref (ad 5) else .null, if 5 < j then .ref (ad 6) else .null, .int (s 6), if 7 < j then .ref (ad 8) else .null, if 8 < j then .ref (ad 9) else .null, if 9 < j then .ref (ad 10) else .null, if 10 < j then .ref (ad 11) else .null, if 11 < j then .ref (ad 12) else .null, if 12 < j then .ref (ad 13) else .null, if 13 < j then .ref (ad 14) else .null, .int (s 14), if 15 < j then .ref (ad 16) else .null, if 16 < j then .ref (ad 17) else .null, if 17 < j then .ref (ad 18) else .null, if 18 < j then .ref (ad 19) else .null, if 19 < j then .ref (ad 20) else .null, if 20 < j then .ref (ad 21) else .null, if 21 < j then .ref (ad 22) else .null, if 22 < j then .ref (ad 23) else .null, if 23 < j then .ref (ad 24) else .null, if 24 < j then .ref (ad 25) else .null, if 25 < j then .ref (ad 26) else .null, .int (s 26), if 27 < j then .ref (ad 28) else .null, if 28 < j then .ref (ad 29) else .null, if 29 < j then .ref (ad 30) else .null, if 30 < j then .ref (ad 31) else .null, if 31 < j then .ref (ad 32) else .null, if 32 < j then .ref (ad 33) else .null, if 33 < j then .ref (ad 34) else .null, if 34 < j then .ref (ad 35) else .null, if 35 < j then .ref (ad 36) else .null, if 36 < j then .ref (ad 37) else .null, if 37 < j then .ref (ad 38) else .null, if 38 < j then .ref (ad 39) else .null, .int (s 39), .int (s 40), if 41 < j then .ref (ad 42) else .null, if 42 < j then .ref (ad 43) else .null, if 43 < j then .ref (ad 44) else .null, if 44 < j then .ref (ad 45) else .null, if 45 < j then .ref (ad 46) else .null, if 46 < j then .ref (ad 47) else .null, if 47 < j then .ref (ad 48) else .null, if 48 < j then .ref (ad 49) else .null, if 49 < j then .ref (ad 50) else .null, if 50 < j then .ref (ad 51) else .null, if 51 < j then .ref (ad 52) else .null, .int (s 52), .int (s 53), if 54 < j then .ref (ad 55) else .null, if 55 < j then .ref (ad 56) else .null, if 56 < j then .ref (ad 57) else .null, .int (s 57), if 58 < j then .ref (ad 59) else .null, if 59 < j then .ref (ad 60) else .null, if 60 < j then .ref (ad 61) else .null, .int (s 61), .int (s 62), .int (s 63), .int (s 64), if 65 < j then .ref (ad 66) else .null, if 66 < j then .ref (ad 67) else .null, if 67 < j then .ref (ad 68) else .null, if 68 < j then .ref (ad 69) else .null]
def ceI (ce0 : Nat → va_E) (ad : Nat → Nat) (cI cZ : ClassId) (s : Nat → Int32) (j : Nat) : Nat → va_E := va_up (mJ ce0 ad cI cZ s z0) 0 (.inr (11, mT j ad s))
def lvI (lv0 : Nat → Prop) (n : Nat) : Nat → Prop := fun k => lv0 k ∨ k = 0 ∨ ∃ i, i < n ∧ k = mAr.getD i 0 + 1
theorem lvI_0 {lv0 : Nat → Prop} {n : Nat} : lvI lv0 n 0 := Or.inr (Or.inl rfl)
theorem lvI_s {lv0 : Nat → Prop} {n : Nat} (k : Nat) (h : lvI lv0 (n + 1) k) : lvI lv0 n k ∨ k = mAr.getD n 0 + 1 := by
  rcases h with h | h | ⟨i, h1, h2⟩
  · exact Or.inl (Or.inl h)
  · exact Or.inl (Or.inr (Or.inl h))
  · by_cases e : i = n
    · subst e; exact Or.inr h2
    · exact Or.inl (Or.inr (Or.inr ⟨i, by omega, h2⟩))
theorem mAr_inj : ∀ i, i < 55 → ∀ j, j < 55 → mAr.getD i 0 = mAr.getD j 0 → i = j := by decide +kernel
theorem mAr_lt : ∀ i, i < 55 → mAr.getD i 0 < 69 := by decide +kernel
theorem lvI_n {lv0 : Nat → Prop} (h0 : ∀ k, lv0 k → 70 ≤ k) {n : Nat} (hn : n < 55) : ¬ lvI lv0 n (mAr.getD n 0 + 1) := by
  have q := mAr_lt n hn
  rintro (h | h | ⟨i, h1, h2⟩)
  · have := h0 _ h; omega
  · omega
  · have := mAr_inj n hn i (by omega) (by omega); omega
theorem mAr_all : ∀ k, k < 70 → mKey k = true → k = 0 ∨ ∃ i, i < 55 ∧ k = mAr.getD i 0 + 1 := by decide +kernel
theorem mKey_lt {k : Nat} (h : mKey k = true) : k < 70 := by
  unfold mKey at h
  simp only [Bool.or_eq_true, Bool.and_eq_true, beq_iff_eq, decide_eq_true_eq] at h
  rcases h with h | ⟨h1, h | h⟩
  · omega
  · have := mIa_lt _ h; omega
  · have := mIz_lt _ h; omega
theorem lvI_M {lv0 : Nat → Prop} : lM (lvI lv0 55) := fun k hk => (mAr_all k (mKey_lt hk) hk).elim (fun h => Or.inr (Or.inl h)) (fun h => Or.inr (Or.inr h))
theorem ceI_0 (ce0 : Nat → va_E) (ad : Nat → Nat) (cI cZ : ClassId) (s : Nat → Int32) (j : Nat) : ceI ce0 ad cI cZ s j 0 = .inr (11, mT j ad s) := va_up_self ..
theorem ceI_a (ce0 : Nat → va_E) (ad : Nat → Nat) (cI cZ : ClassId) (s : Nat → Int32) (j : Nat) {f : Nat} (hf : mIa f = true) : va_up (ceI ce0 ad cI cZ s j) (f + 1) (.inl (cI, mLen f, .inl (fun _ => 0))) = ceI ce0 ad cI cZ s j := by
  funext k
  by_cases e : k = f + 1
  · subst e; rw [va_up_self]; unfold ceI; rw [va_up_ne _ _ (by omega), mJ_a _ _ _ _ _ _ hf]; rfl
  · rw [va_up_ne _ _ e]
theorem ceI_z (ce0 : Nat → va_E) (ad : Nat → Nat) (cI cZ : ClassId) (s : Nat → Int32) (j : Nat) {f : Nat} (hf : mIz f = true) : va_up (ceI ce0 ad cI cZ s j) (f + 1) (.inl (cZ, mLen f, .inl (fun _ => 0))) = ceI ce0 ad cI cZ s j := by
  funext k
  by_cases e : k = f + 1
  · subst e; rw [va_up_self]; unfold ceI; rw [va_up_ne _ _ (by omega), mJ_z _ _ _ _ _ _ hf]; rfl
  · rw [va_up_ne _ _ e]
theorem ceI_p (ce0 : Nat → va_E) (ad : Nat → Nat) (cI cZ : ClassId) (s : Nat → Int32) (j j' : Nat) {fs : List Value} (h : fs = mT j' ad s) : va_up (ceI ce0 ad cI cZ s j) 0 (.inr (11, fs)) = ceI ce0 ad cI cZ s j' := by
  subst h
  funext k
  by_cases e : k = 0
  · subst e; rw [va_up_self, ceI_0]
  · unfold ceI; rw [va_up_ne _ _ e, va_up_ne _ _ e, va_up_ne _ _ e]
theorem ceI_i (ce0 : Nat → va_E) (ad : Nat → Nat) (cI cZ : ClassId) (s : Nat → Int32) (j : Nat) (x : Int32) {fs : List Value} (h : fs = mT j ad (upd s 64 x)) : va_up (ceI ce0 ad cI cZ s j) 0 (.inr (11, fs)) = ceI ce0 ad cI cZ (upd s 64 x) j := by
  subst h
  funext k
  by_cases e : k = 0
  · subst e; rw [va_up_self, ceI_0]
  · unfold ceI; rw [va_up_ne _ _ e, va_up_ne _ _ e, va_up_ne _ _ e]; simp [mJ, mC, e]
theorem ceI_69 (ce0 : Nat → va_E) (ad : Nat → Nat) (cI cZ : ClassId) (s : Nat → Int32) : ceI ce0 ad cI cZ s 69 = mJ ce0 ad cI cZ s z0 := by
  funext k
  by_cases e : k = 0
  · subst e; rw [ceI_0]; rfl
  · unfold ceI; rw [va_up_ne _ _ e]
def rI : Nat → Nat → Nat → Int32
  | 0 => z0
  | n + 1 => up2 (up2 (up2 (up2 (rI n) 2 n 15) 3 n 50) 4 n (-20)) 5 n 40
def sI : Nat → Int32 := upd (fun _ => 0) 64 (-1)
section GPZ
variable {p : Program} {l : Launch} {e : Env} {R : Room} {s : State} {m : MethodId} {args : Array Value} {below : List Frame} {meth : Method} {c : Code} {H : Heap} {locs : List Loc} {cells slots : Nat} {Q : State → Prop}
variable {cc : ByteArray} {pc nL : Nat} {ls : Array Slot} {rest st0 : List Value} {D : va_G} {tys : List (ClassId × FieldType)} {Hb : Heap} {lv : Nat → Prop} {ad : Nat → Nat} {ce : Nat → va_E} {Ts : List Cond} {own : String}
theorem g_putz (S : CallFix p m c cc nL s args Ts own) (hK : va_K D vwCl tys s) (hG : gW D Hb lv ad ce H) (hL : gL Hb locs) {ref C : String} {T : u_T} {N ci index : Nat} (hin : ∀ w ∈ u_ws C T N, w ∈ Ts) (ty0 : Nat → FieldType) (hty : ∀ k, k < N → parseFieldDescriptor (T k).2.2.1 = some (ty0 k)) (hnm : ∀ a, a < N → ∀ b, b < N → a ≠ b → (T a).2.1 ≠ (T b).2.1) (k : Nat) (hk : lv k) {fs : List Value} (he : ce k = .inr (ci, fs)) (hc : vwCl[ci]? = some (C, T, N)) (f : Nat) (hf : f < N) (hlink : (Cond.fieldLink own index ref (T f).2.1 (T f).2.2.1).before args s = true) (hsame : ∀ x, s.fieldFound? (T f).1 (T f).2.1 (T f).2.2.1 = some x → s.fieldFound? ref (T f).2.1 (T f).2.2.1 = some x) (hfin : (T f).2.2.2 = false) {ty : FieldType} {v : Value} (hd : parseFieldDescriptor (T f).2.2.1 = some ty) (hn : narrow ty v = v) (hfit : fits ty v = true) (hl : f < fs.length) (hdg : decode cc pc = .ok (.putfield index, 3))
    (kk : ∀ (H1 : Heap) (locs1 : List Loc), gW D Hb lv ad (va_up ce k (.inr (ci, fs.set f v))) H1 → gL Hb locs1 → H1.size = H.size → W p l e R s m args below meth c H1 locs1 cells slots Q (F0 m (pc + 3) ls rest)) : W p l e R s m args below meth c H locs cells slots Q (F0 m pc ls (v :: .ref (ad k) :: rest)) := by
  obtain ⟨hexec, hb, hml, hown, hts⟩ := S
  have hap := va_apart (own := own) hts hin ty0 hty hnm hK hc
  obtain ⟨r, h1, cell, q1, q2, q3, q4⟩ := (hG.one hk he) 0 _ rfl
  have hr : r = (C, T, N) := Option.some.inj (h1.symm.trans hc)
  subst hr
  obtain ⟨hS, hfc, kC, hkC, hkind⟩ := hK.1 ci _ hc
  obtain ⟨cf, kf, fi, fd, hi, hsl⟩ := hS f hf
  have hlay := hts _ (hin _ (u_in_lay hf))
  unfold u_lay at hlay
  rw [if_neg (by rw [hfin]; decide)] at hlay
  have hst := (u_facts hfc hkC (u_lays hts hin hf) hi).1
  have h6 := u_store hfc hkC hkind hlay hi hd hn hfit
  refine W.putK hexec hb (f := fd) ⟨hown, hlink, ⟨_, _, _, hsame _ hi⟩, hst⟩ (by rw [q2]; exact h6) q1 q3 (by rw [hsl]; exact k2_hasslot (q4 f hf)) rfl rfl hdg fun H' e1 e2 e3 => ?_
  rw [hsl] at e1 ⊢
  exact kk H' _ (hG.set hk ⟨_, hc, t_OB.to (V := updV (vp_V fs) f v) ⟨_, e1, q2, q3, t_set q4 hap hf v⟩ (fun j _ => vp_updV_set hl v j)⟩ e2 e3) (hL.put (hG.2.2.1 k hk)) e2
end GPZ
