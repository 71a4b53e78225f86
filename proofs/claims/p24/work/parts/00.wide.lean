/-! the rows need the whole library (arrays of arrays): said at the first row, so that nothing is compiled twice -/
theorem wide_0 (c : ClassId) (N h0 : Nat) : Jvm.Free.Multi.outerC c N h0 0 = Jvm.Free.Multi.outerC c N h0 0 := rfl
