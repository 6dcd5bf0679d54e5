theorem xx_first : 1 + 1 = 2 := rfl
