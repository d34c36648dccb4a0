theorem mjk151_15 : mj_ckb mj_P mjM151.1.cls mjM151.1.name mjM151.2.1 mjM151.2.2.2.1 ((mjL151.drop 600).take 40) 938 = true := by decide +kernel
theorem mjk151_16 : mj_ckb mj_P mjM151.1.cls mjM151.1.name mjM151.2.1 mjM151.2.2.2.1 ((mjL151.drop 640).take 40) 1020 = true := by decide +kernel
