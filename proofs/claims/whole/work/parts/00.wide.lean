/-! ===== a name of the library's rest, first of all: every round is read over the whole library from its first part on (part 87 needs it) ===== -/
theorem mz_wide (c : ClassId) (N h0 : Nat) : Jvm.Free.Multi.outerC c N h0 0 = Jvm.Free.Multi.outerC c N h0 0 := rfl
