/-! a name of the whole library ahead of all: a round is read over the whole of it from its first part on -/
theorem zw_wide (c : ClassId) (N h0 : Nat) : Jvm.Free.Multi.outerC c N h0 0 = Jvm.Free.Multi.outerC c N h0 0 := rfl
