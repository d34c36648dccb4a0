theorem mjk151_5 : mj_ckb mj_P mjM151.1.cls mjM151.1.name mjM151.2.1 mjM151.2.2.2.1 ((mjL151.drop 200).take 40) 318 = true := by decide +kernel
theorem mjk151_6 : mj_ckb mj_P mjM151.1.cls mjM151.1.name mjM151.2.1 mjM151.2.2.2.1 ((mjL151.drop 240).take 40) 378 = true := by decide +kernel
theorem mjk151_7 : mj_ckb mj_P mjM151.1.cls mjM151.1.name mjM151.2.1 mjM151.2.2.2.1 ((mjL151.drop 280).take 40) 438 = true := by decide +kernel
theorem mjk151_8 : mj_ckb mj_P mjM151.1.cls mjM151.1.name mjM151.2.1 mjM151.2.2.2.1 ((mjL151.drop 320).take 40) 498 = true := by decide +kernel
theorem mjk151_9 : mj_ckb mj_P mjM151.1.cls mjM151.1.name mjM151.2.1 mjM151.2.2.2.1 ((mjL151.drop 360).take 40) 558 = true := by decide +kernel
