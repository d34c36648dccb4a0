/-! numerals of ints as nI, and their order -/
theorem nl_2 : (2 : Int32) = nI 2 := rfl
theorem nl_3 : (3 : Int32) = nI 3 := rfl
theorem nl_4 : (4 : Int32) = nI 4 := rfl
theorem nl_5 : (5 : Int32) = nI 5 := rfl
theorem nl_6 : (6 : Int32) = nI 6 := rfl
theorem nl_7 : (7 : Int32) = nI 7 := rfl
theorem nl_8 : (8 : Int32) = nI 8 := rfl
theorem nl_9 : (9 : Int32) = nI 9 := rfl
theorem nl_10 : (10 : Int32) = nI 10 := rfl
theorem nl_11 : (11 : Int32) = nI 11 := rfl
theorem nl_12 : (12 : Int32) = nI 12 := rfl
theorem nl_13 : (13 : Int32) = nI 13 := rfl
theorem nl_14 : (14 : Int32) = nI 14 := rfl
theorem nl_15 : (15 : Int32) = nI 15 := rfl
theorem nl_16 : (16 : Int32) = nI 16 := rfl
theorem nl_17 : (17 : Int32) = nI 17 := rfl
theorem nl_18 : (18 : Int32) = nI 18 := rfl
theorem nl_19 : (19 : Int32) = nI 19 := rfl
theorem nl_20 : (20 : Int32) = nI 20 := rfl
theorem nl_21 : (21 : Int32) = nI 21 := rfl
theorem nl_22 : (22 : Int32) = nI 22 := rfl
theorem nl_23 : (23 : Int32) = nI 23 := rfl
theorem nl_24 : (24 : Int32) = nI 24 := rfl
theorem nl_25 : (25 : Int32) = nI 25 := rfl
theorem nl_26 : (26 : Int32) = nI 26 := rfl
theorem nl_27 : (27 : Int32) = nI 27 := rfl
theorem nl_28 : (28 : Int32) = nI 28 := rfl
theorem nl_29 : (29 : Int32) = nI 29 := rfl
theorem nl_30 : (30 : Int32) = nI 30 := rfl
theorem nl_31 : (31 : Int32) = nI 31 := rfl
theorem nl_32 : (32 : Int32) = nI 32 := rfl
theorem nl_33 : (33 : Int32) = nI 33 := rfl
theorem nl_34 : (34 : Int32) = nI 34 := rfl
theorem nl_35 : (35 : Int32) = nI 35 := rfl
theorem nl_36 : (36 : Int32) = nI 36 := rfl
theorem nl_37 : (37 : Int32) = nI 37 := rfl
theorem nl_38 : (38 : Int32) = nI 38 := rfl
theorem nl_39 : (39 : Int32) = nI 39 := rfl
theorem nl_40 : (40 : Int32) = nI 40 := rfl
theorem nl_41 : (41 : Int32) = nI 41 := rfl
theorem nl_42 : (42 : Int32) = nI 42 := rfl
theorem nl_43 : (43 : Int32) = nI 43 := rfl
theorem nl_44 : (44 : Int32) = nI 44 := rfl
theorem nl_45 : (45 : Int32) = nI 45 := rfl
theorem nl_46 : (46 : Int32) = nI 46 := rfl
theorem nl_47 : (47 : Int32) = nI 47 := rfl
theorem nl_48 : (48 : Int32) = nI 48 := rfl
theorem nl_49 : (49 : Int32) = nI 49 := rfl
theorem nl_50 : (50 : Int32) = nI 50 := rfl
theorem nl_51 : (51 : Int32) = nI 51 := rfl
theorem nl_52 : (52 : Int32) = nI 52 := rfl
theorem nl_53 : (53 : Int32) = nI 53 := rfl
theorem nl_54 : (54 : Int32) = nI 54 := rfl
theorem nl_55 : (55 : Int32) = nI 55 := rfl
theorem nl_56 : (56 : Int32) = nI 56 := rfl
theorem nl_57 : (57 : Int32) = nI 57 := rfl
theorem nl_58 : (58 : Int32) = nI 58 := rfl
theorem nl_59 : (59 : Int32) = nI 59 := rfl
theorem nl_60 : (60 : Int32) = nI 60 := rfl
theorem nl_61 : (61 : Int32) = nI 61 := rfl
theorem nl_62 : (62 : Int32) = nI 62 := rfl
theorem nl_63 : (63 : Int32) = nI 63 := rfl
theorem nl_64 : (64 : Int32) = nI 64 := rfl
theorem nl_65 : (65 : Int32) = nI 65 := rfl
theorem nl_66 : (66 : Int32) = nI 66 := rfl
theorem nl_67 : (67 : Int32) = nI 67 := rfl
theorem nl_68 : (68 : Int32) = nI 68 := rfl
theorem nl_69 : (69 : Int32) = nI 69 := rfl
theorem nl_92 : (92 : Int32) = nI 92 := rfl
theorem nl_97 : (97 : Int32) = nI 97 := rfl
theorem nl_99 : (99 : Int32) = nI 99 := rfl
theorem nl_100 : (100 : Int32) = nI 100 := rfl
theorem nl_122 : (122 : Int32) = nI 122 := rfl
theorem nl_127 : (127 : Int32) = nI 127 := rfl
theorem nl_128 : (128 : Int32) = nI 128 := rfl
theorem nl_131 : (131 : Int32) = nI 131 := rfl
theorem nl_132 : (132 : Int32) = nI 132 := rfl
theorem nl_150 : (150 : Int32) = nI 150 := rfl
theorem nl_200 : (200 : Int32) = nI 200 := rfl
theorem nl_255 : (255 : Int32) = nI 255 := rfl
theorem nl_256 : (256 : Int32) = nI 256 := rfl
theorem nl_300 : (300 : Int32) = nI 300 := rfl
theorem nl_342 : (342 : Int32) = nI 342 := rfl
theorem nl_380 : (380 : Int32) = nI 380 := rfl
theorem nl_381 : (381 : Int32) = nI 381 := rfl
theorem nl_400 : (400 : Int32) = nI 400 := rfl
theorem nl_401 : (401 : Int32) = nI 401 := rfl
theorem nl_420 : (420 : Int32) = nI 420 := rfl
theorem nl_500 : (500 : Int32) = nI 500 := rfl
theorem nl_600 : (600 : Int32) = nI 600 := rfl
theorem nl_800 : (800 : Int32) = nI 800 := rfl
theorem nl_999 : (999 : Int32) = nI 999 := rfl
theorem nl_1000 : (1000 : Int32) = nI 1000 := rfl
theorem nl_1023 : (1023 : Int32) = nI 1023 := rfl
theorem nl_1024 : (1024 : Int32) = nI 1024 := rfl
theorem nl_1200 : (1200 : Int32) = nI 1200 := rfl
theorem nl_2048 : (2048 : Int32) = nI 2048 := rfl
theorem nl_2100 : (2100 : Int32) = nI 2100 := rfl
theorem nl_4096 : (4096 : Int32) = nI 4096 := rfl
theorem nl_9999 : (9999 : Int32) = nI 9999 := rfl
theorem nl_10000 : (10000 : Int32) = nI 10000 := rfl
theorem nl_10240 : (10240 : Int32) = nI 10240 := rfl
theorem nl_999999 : (999999 : Int32) = nI 999999 := rfl
theorem nl_1000000 : (1000000 : Int32) = nI 1000000 := rfl
theorem mj_zz : (0 : Int32) = nI 0 := rfl
theorem mj_oo : (1 : Int32) = nI 1 := rfl
theorem mj_ez {k : Nat} (hk : k < 2147483648) : (nI k = 0) = (k = 0) := by rw [mj_zz]; exact mj_nIeq hk (by omega)
theorem mj_ze {k : Nat} (hk : k < 2147483648) : (0 = nI k) = (0 = k) := by rw [mj_zz]; exact mj_nIeq (by omega) hk
theorem mj_eo {k : Nat} (hk : k < 2147483648) : (nI k = 1) = (k = 1) := by rw [mj_oo]; exact mj_nIeq hk (by omega)
theorem mj_ltz {k : Nat} (hk : k < 2147483648) : (nI k < 0) = False := by rw [mj_zz, mj_nIlt hk (by omega)]; apply propext; constructor; intro h; omega; intro h; exact h.elim
theorem mj_lez {k : Nat} (hk : k < 2147483648) : (nI k ≤ 0) = (k = 0) := by rw [mj_zz, mj_nIle hk (by omega)]; apply propext; omega
theorem mj_zlt {k : Nat} (hk : k < 2147483648) : (0 < nI k) = (0 < k) := by rw [mj_zz, mj_nIlt (by omega) hk]
theorem mj_olt {k : Nat} (hk : k < 2147483648) : (1 < nI k) = (1 < k) := by rw [mj_oo, mj_nIlt (by omega) hk]
theorem mj_lto {k : Nat} (hk : k < 2147483648) : (nI k < 1) = (k < 1) := by rw [mj_oo, mj_nIlt hk (by omega)]
theorem mj_leo {k : Nat} (hk : k < 2147483648) : (nI k ≤ 1) = (k ≤ 1) := by rw [mj_oo, mj_nIle hk (by omega)]
theorem mj_ole {k : Nat} (hk : k < 2147483648) : (1 ≤ nI k) = (1 ≤ k) := by rw [mj_oo, mj_nIle (by omega) hk]
theorem mj_nIn {k : Nat} (hk : k < 2147483648) : (nI k = -1) = False := by
  apply propext
  constructor
  · intro h
    have h2 := congrArg Int32.toInt h
    rw [mj_nIi hk] at h2
    have h3 : (-1 : Int32).toInt = -1 := rfl
    rw [h3] at h2
    omega
  · intro h; exact h.elim
theorem mj_nnI {k : Nat} (hk : k < 2147483648) : (-1 = nI k) = False := by
  apply propext; constructor
  · intro h; exact ((mj_nIn hk).mp h.symm)
  · intro h; exact h.elim
theorem mj_nIsub {a b : Nat} (h : b ≤ a) : nI a - nI b = nI (a - b) := by
  have e : nI a = nI (a - b) + nI b := by rw [mj_nIadd]; congr 1; omega
  rw [e]; exact Int32.add_sub_cancel _ _
theorem mj_nIp {a : Nat} (h : 1 ≤ a) : nI a - (1 : Int32) = nI (a - 1) := mj_nIsub h
theorem mj_nIm {a : Nat} (h : 1 ≤ a) : nI a + (-1 : Int32) = nI (a - 1) := by
  rw [← mj_nIp h]; exact (Int32.sub_eq_add_neg _ _).symm
theorem mj_nImul (a b : Nat) : nI a * nI b = nI (a * b) := by unfold nI; rw [Int32.ofNat_mul]
theorem mj_u_ne {f : Nat → Nat → Int32} {a b i : Nat} {v : Int32} (h : a ≠ b) : mj_u f b i v a = f a := by
  funext k; exact if_neg (fun z => h z.1)
theorem mj_u_ne2 {f : Nat → Nat → Int32} {a i k : Nat} {v : Int32} (h : k ≠ i) : mj_u f a i v a k = f a k := if_neg (fun z => h z.2)
theorem mj_u_eq {f : Nat → Nat → Int32} {a i : Nat} {v : Int32} : mj_u f a i v a i = v := if_pos ⟨rfl, rfl⟩
theorem mj_u_at {f : Nat → Nat → Int32} {a i k : Nat} {v : Int32} : mj_u f a i v a k = if k = i then v else f a k := by
  unfold mj_u; by_cases h : k = i
  · rw [if_pos ⟨rfl, h⟩, if_pos h]
  · rw [if_neg (fun z => h z.2), if_neg h]
