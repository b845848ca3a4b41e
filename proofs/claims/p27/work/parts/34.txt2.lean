theorem bi_false : bi false = 0 := rfl
theorem bi_true : bi true = 1 := rfl
