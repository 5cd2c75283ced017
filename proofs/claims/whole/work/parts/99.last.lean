theorem zz_t : 1 + 1 = 2 := rfl
