theorem mjk151_10 : mj_ckb mj_P mjM151.1.cls mjM151.1.name mjM151.2.1 mjM151.2.2.2.1 ((mjL151.drop 400).take 40) 618 = true := by decide +kernel
theorem mjk151_11 : mj_ckb mj_P mjM151.1.cls mjM151.1.name mjM151.2.1 mjM151.2.2.2.1 ((mjL151.drop 440).take 40) 678 = true := by decide +kernel
theorem mjk151_12 : mj_ckb mj_P mjM151.1.cls mjM151.1.name mjM151.2.1 mjM151.2.2.2.1 ((mjL151.drop 480).take 40) 738 = true := by decide +kernel
theorem mjk151_13 : mj_ckb mj_P mjM151.1.cls mjM151.1.name mjM151.2.1 mjM151.2.2.2.1 ((mjL151.drop 520).take 40) 798 = true := by decide +kernel
theorem mjk151_14 : mj_ckb mj_P mjM151.1.cls mjM151.1.name mjM151.2.1 mjM151.2.2.2.1 ((mjL151.drop 560).take 40) 860 = true := by decide +kernel
