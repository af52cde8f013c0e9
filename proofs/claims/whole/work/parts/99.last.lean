theorem fj_try1 : fj_code 11 0 = some (.aload_n 0, 1, 0, []) := rfl
