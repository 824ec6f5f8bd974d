theorem am_test1 : am_nth [.int 1, .int 2] 1 = .int 2 := rfl
