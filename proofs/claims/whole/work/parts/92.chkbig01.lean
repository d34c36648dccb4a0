theorem mjk151_0 : mj_ckb mj_P mjM151.1.cls mjM151.1.name mjM151.2.1 mjM151.2.2.2.1 ((mjL151.drop 0).take 40) 0 = true := by decide +kernel
theorem mjk151_1 : mj_ckb mj_P mjM151.1.cls mjM151.1.name mjM151.2.1 mjM151.2.2.2.1 ((mjL151.drop 40).take 40) 83 = true := by decide +kernel
theorem mjk151_2 : mj_ckb mj_P mjM151.1.cls mjM151.1.name mjM151.2.1 mjM151.2.2.2.1 ((mjL151.drop 80).take 40) 138 = true := by decide +kernel
theorem mjk151_3 : mj_ckb mj_P mjM151.1.cls mjM151.1.name mjM151.2.1 mjM151.2.2.2.1 ((mjL151.drop 120).take 40) 198 = true := by decide +kernel
theorem mjk151_4 : mj_ckb mj_P mjM151.1.cls mjM151.1.name mjM151.2.1 mjM151.2.2.2.1 ((mjL151.drop 160).take 40) 258 = true := by decide +kernel
