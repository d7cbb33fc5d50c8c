/-! ===== the rows of new int[n][k] (part 85) want the whole library: a name of it stands first, so that on a new machine a round is read over the whole from its first part on ===== -/
theorem w_wide (c : ClassId) : Jvm.Free.Multi.outerC c 0 0 0 = Jvm.Free.Multi.outerC c 0 0 0 := rfl
