section MJ89x3
variable {E : mj_E} {d w c : Nat} {hi : mj_HI} {hl : Nat → Nat → Int64}
theorem s_learnSeats {T p : Nat} {f t : Nat → Nat} (hT : T < 1024) (hm : mj_pc 10 T ≤ 8) (hp : p ≤ 16) (h0 : hi 26 0 = nI p) (hf : ∀ i, i < p → hi 28 i = nI (f i) ∧ hi 29 i = nI (t i) ∧ f i < 10 ∧ t i < 10) : ∃ g : mj_HI, mj_dc mj_P E (d + 3) 31 [.ref 194, .int (nI T), .ref 26] (mj_hw w c hi hl) = some (none, mj_hw w c g hl) ∧ (∀ x y, x < mj_pc 10 T → y < mj_pc 10 T → g 198 (8 * x + y) = nI (sa_P f t p (wm T x) (wm T y))) ∧ ∀ a k, a ≠ 198 → g a k = hi a k := by
  have e64 : Int32.ofNat 64 = nI 64 := rfl
  have key1 := lp_ex (fun j (h : mj_HI) => mj_den mj_P E (d + 2) 31 2 [.ref 194, .int (nI T), .ref 26, .int (nI j), .float 0, .float 0, .float 0] [] (mj_hw w c h hl)) (fun j h => (∀ k, k < j → h 198 k = 0) ∧ ∀ a k, a ≠ 198 → h a k = hi a k) 64 (fun j h hj hI => ?_) hi ⟨fun k hk => absurd hk (by omega), fun _ _ _ => rfl⟩
  · obtain ⟨g1, e1, a1, a2⟩ := key1
    have e1' : mj_den mj_P E (d + 2) 31 2 [.ref 194, .int (nI T), .ref 26, .int 0, .float 0, .float 0, .float 0] [] (mj_hw w c hi hl) = mj_den mj_P E (d + 2) 31 2 [.ref 194, .int (nI T), .ref 26, .int (nI 64), .float 0, .float 0, .float 0] [] (mj_hw w c g1 hl) := e1
    obtain ⟨B, hB⟩ : ∃ B : Nat → Nat → Nat → Bool, ∀ x y i, B x y i = decide ((T.testBit (f i) = true ∧ T.testBit (t i) = true) ∧ mj_pc (f i) T = x ∧ mj_pc (t i) T = y) := ⟨_, fun _ _ _ => rfl⟩
    have key2 := lp_ex (fun j (q : Value × Value × Value × mj_HI) => mj_den mj_P E (d + 2) 31 26 [.ref 194, .int (nI T), .ref 26, .int (nI j), q.1, q.2.1, q.2.2.1] [] (mj_hw w c q.2.2.2 hl)) (fun j q => (∀ x y, x < 8 → y < 8 → q.2.2.2 198 (8 * x + y) = nI (if 0 < iv_cnt (B x y) j then 1 else 0)) ∧ ∀ a k, a ≠ 198 → q.2.2.2 a k = hi a k) p (fun j q hj hI => ?_) (.float 0, .float 0, .float 0, g1) ⟨fun x y hx hy => by
        show g1 198 (8 * x + y) = _
        rw [a1 _ (by omega), if_neg (by show ¬ 0 < 0; omega)]; rfl, a2⟩
    · obtain ⟨⟨u4, u5, u6, g⟩, e2, b1, b2⟩ := key2
      simp only at b1 b2
      have e2' : mj_den mj_P E (d + 2) 31 26 [.ref 194, .int (nI T), .ref 26, .int 0, .float 0, .float 0, .float 0] [] (mj_hw w c g1 hl) = mj_den mj_P E (d + 2) 31 26 [.ref 194, .int (nI T), .ref 26, .int (nI p), u4, u5, u6] [] (mj_hw w c g hl) := e2
      have g0 : g 26 0 = nI p := by rw [b2 _ _ (by omega)]; exact h0
      refine ⟨g, ?_, fun x y hx hy => ?_, b2⟩
      · rw [xg31, g31_0, e1', g31_2, e64, if_pos (Int32.le_refl _), g31_24, e2', g31_26, g0, if_pos (Int32.le_refl _), g31_116]
      · rw [b1 x y (by omega) (by omega)]
        unfold sa_P
        obtain ⟨x1, x2, x3⟩ := wm_ok hx
        obtain ⟨y1, y2, y3⟩ := wm_ok hy
        have hiff : 0 < iv_cnt (B x y) p ↔ (wv_pn f t (2 ^ wm T x) p).testBit (wm T y) = true := by
          rw [iv_cnt_pos, sa_P_iff]
          constructor
          · rintro ⟨i, i1, i2⟩
            rw [hB] at i2
            obtain ⟨⟨i3, i4⟩, i5, i6⟩ := of_decide_eq_true i2
            obtain ⟨_, _, f1, f2⟩ := hf i i1
            refine ⟨i, i1, ?_, ?_⟩
            · rw [← i5]; exact ((wm_of f1 i3).2).symm
            · rw [← i6]; exact ((wm_of f2 i4).2).symm
          · rintro ⟨i, i1, i2, i3⟩
            refine ⟨i, i1, ?_⟩
            rw [hB, i2, i3]
            exact decide_eq_true ⟨⟨x2, y2⟩, x3, y3⟩
        by_cases hz : 0 < iv_cnt (B x y) p
        · rw [if_pos hz, if_pos (hiff.mp hz)]
        · rw [if_neg hz, if_neg (fun z => hz (hiff.mpr z))]
    · obtain ⟨u4, u5, u6, h⟩ := q
      obtain ⟨b1, b2⟩ := hI
      simp only at b1 b2
      obtain ⟨f1, f2, f3, f4⟩ := hf j hj
      have g0 : h 26 0 = nI p := by rw [b2 _ _ (by omega)]; exact h0
      have k1 : h 28 j = nI (f j) := by rw [b2 _ _ (by omega)]; exact f1
      have k2 : h 29 j = nI (t j) := by rw [b2 _ _ (by omega)]; exact f2
      have nj : ¬ p ≤ j := by omega
      have n16 : ¬ 16 ≤ j := by omega
      have pb1 : mj_pc (f j) T ≤ 10 := Nat.le_trans (iv_cnt_bd _ _) (by omega)
      have pb2 : mj_pc (t j) T ≤ 10 := Nat.le_trans (iv_cnt_bd _ _) (by omega)
      have e8 : nI (mj_pc (f j) T) * nI 8 + nI (mj_pc (t j) T) = nI (8 * mj_pc (f j) T + mj_pc (t j) T) := by rw [mj_nImul, mj_nIadd, Nat.mul_comm]
      by_cases hb : T.testBit (f j) = true ∧ T.testBit (t j) = true
      · have w1 := (wm_of f3 hb.1).1
        have w2 := (wm_of f4 hb.2).1
        have n64 : ¬ 64 ≤ 8 * mj_pc (f j) T + mj_pc (t j) T := by omega
        have l64 : 8 * mj_pc (f j) T + mj_pc (t j) T < 64 := by omega
        have hb1 := hb.1
        have hb2 := hb.2
        refine ⟨(.int (nI (f j)), .int (nI (t j)), .int (nI (8 * mj_pc (f j) T + mj_pc (t j) T)), mj_u h 198 (8 * mj_pc (f j) T + mj_pc (t j) T) 1), ?_, fun x y hx hy => ?_, fun a k ha => ?_⟩
        · show mj_den mj_P E (d + 2) 31 26 [.ref 194, .int (nI T), .ref 26, .int (nI j), u4, u5, u6] [] (mj_hw w c h hl) = mj_den mj_P E (d + 2) 31 26 [.ref 194, .int (nI T), .ref 26, .int (nI (j + 1)), .int (nI (f j)), .int (nI (t j)), .int (nI (8 * mj_pc (f j) T + mj_pc (t j) T))] [] (mj_hw w c (mj_u h 198 (8 * mj_pc (f j) T + mj_pc (t j) T) 1) hl)
          rw [g31_26]
          simp (disch := omega) only [↓reduceIte, Bool.false_eq_true, eq_self, mj_10, mj_01, mj_n10, mj_0n1, mj_1n1, mj_n11, mj_bi_some, mj_bv_some, mj_bj_some, mj_br_some, mj_r0, mj_r1, mj_q0, mj_q1, mj_b01, mj_q2, if_true, if_false, mj_it, mj_if, true_and, and_true, false_and, and_false, not_true_eq_false, not_false_eq_true, true_or, or_true, false_or, or_false, mj_nIle, mj_nIlt, mj_nIeq, mj_nI0, mj_nIc, mj_nIadd, mj_nIs, mj_ez, mj_ze, mj_eo, mj_ltz, mj_lez, mj_zlt, mj_olt, mj_lto, mj_leo, mj_ole, mj_nIn, mj_nnI, nl_2, nl_3, nl_4, nl_5, nl_6, nl_7, nl_8, nl_9, nl_10, nl_11, nl_12, nl_13, nl_14, nl_15, nl_16, nl_17, nl_18, nl_19, nl_20, nl_21, nl_22, nl_23, nl_24, nl_25, nl_26, nl_27, nl_28, nl_29, nl_30, nl_32, nl_33, nl_34, nl_35, nl_36, nl_37, nl_38, nl_39, nl_40, nl_41, nl_42, nl_43, nl_44, nl_45, nl_46, nl_47, nl_48, nl_49, nl_50, nl_51, nl_52, nl_53, nl_54, nl_55, nl_56, nl_57, nl_58, nl_59, nl_60, nl_61, nl_62, nl_64, nl_65, nl_66, nl_67, nl_68, nl_69, nl_92, nl_97, nl_99, nl_100, nl_122, nl_127, nl_128, nl_131, nl_132, nl_150, nl_200, nl_255, nl_256, nl_300, nl_342, nl_380, nl_381, nl_400, nl_401, nl_420, nl_500, nl_600, nl_800, nl_999, nl_1000, nl_1023, nl_1024, nl_1200, nl_2048, nl_2100, nl_4096, nl_9999, nl_10000, nl_10240, nl_999999, nl_1000000, if_pos, if_neg, g0, k1, k2, nj, n16, s_place, g31_62, g31_71, s_hX, hb1, hb2, g31_80, g31_89, e8, e64, n64, l64, g31_110]
        · show mj_u h 198 (8 * mj_pc (f j) T + mj_pc (t j) T) 1 198 (8 * x + y) = _
          rw [iv_cnt_s]
          by_cases hxy : mj_pc (f j) T = x ∧ mj_pc (t j) T = y
          · rw [hxy.1, hxy.2, mj_u_eq, if_pos (show 0 < iv_cnt (B x y) j + (if B x y j = true then 1 else 0) by rw [if_pos (show B x y j = true by rw [hB]; exact decide_eq_true ⟨hb, hxy⟩)]; omega)]; rfl
          · rw [mj_u_pt (by omega), if_neg (show ¬ B x y j = true by rw [hB]; exact fun z => hxy (of_decide_eq_true z).2), Nat.add_zero]
            exact b1 x y hx hy
        · show mj_u h 198 _ 1 a k = _
          rw [mj_u_pt (by omega)]; exact b2 a k ha
      · refine ⟨(.int (nI (f j)), .int (nI (t j)), .int (nI (8 * mj_pc (f j) T + mj_pc (t j) T)), h), ?_, fun x y hx hy => ?_, b2⟩
        · show mj_den mj_P E (d + 2) 31 26 [.ref 194, .int (nI T), .ref 26, .int (nI j), u4, u5, u6] [] (mj_hw w c h hl) = mj_den mj_P E (d + 2) 31 26 [.ref 194, .int (nI T), .ref 26, .int (nI (j + 1)), .int (nI (f j)), .int (nI (t j)), .int (nI (8 * mj_pc (f j) T + mj_pc (t j) T))] [] (mj_hw w c h hl)
          rw [g31_26]
          by_cases hb1 : T.testBit (f j) = true
          · have hb2 : ¬ T.testBit (t j) = true := fun z => hb ⟨hb1, z⟩
            simp (disch := omega) only [↓reduceIte, Bool.false_eq_true, eq_self, mj_10, mj_01, mj_n10, mj_0n1, mj_1n1, mj_n11, mj_bi_some, mj_bv_some, mj_bj_some, mj_br_some, mj_r0, mj_r1, mj_q0, mj_q1, mj_b01, mj_q2, if_true, if_false, mj_it, mj_if, true_and, and_true, false_and, and_false, not_true_eq_false, not_false_eq_true, true_or, or_true, false_or, or_false, mj_nIle, mj_nIlt, mj_nIeq, mj_nI0, mj_nIc, mj_nIadd, mj_nIs, mj_ez, mj_ze, mj_eo, mj_ltz, mj_lez, mj_zlt, mj_olt, mj_lto, mj_leo, mj_ole, mj_nIn, mj_nnI, nl_2, nl_3, nl_4, nl_5, nl_6, nl_7, nl_8, nl_9, nl_10, nl_11, nl_12, nl_13, nl_14, nl_15, nl_16, nl_17, nl_18, nl_19, nl_20, nl_21, nl_22, nl_23, nl_24, nl_25, nl_26, nl_27, nl_28, nl_29, nl_30, nl_32, nl_33, nl_34, nl_35, nl_36, nl_37, nl_38, nl_39, nl_40, nl_41, nl_42, nl_43, nl_44, nl_45, nl_46, nl_47, nl_48, nl_49, nl_50, nl_51, nl_52, nl_53, nl_54, nl_55, nl_56, nl_57, nl_58, nl_59, nl_60, nl_61, nl_62, nl_64, nl_65, nl_66, nl_67, nl_68, nl_69, nl_92, nl_97, nl_99, nl_100, nl_122, nl_127, nl_128, nl_131, nl_132, nl_150, nl_200, nl_255, nl_256, nl_300, nl_342, nl_380, nl_381, nl_400, nl_401, nl_420, nl_500, nl_600, nl_800, nl_999, nl_1000, nl_1023, nl_1024, nl_1200, nl_2048, nl_2100, nl_4096, nl_9999, nl_10000, nl_10240, nl_999999, nl_1000000, if_pos, if_neg, g0, k1, k2, nj, n16, s_place, g31_62, g31_71, s_hX, hb1, hb2, g31_80, g31_89, e8, g31_110]
          · simp (disch := omega) only [↓reduceIte, Bool.false_eq_true, eq_self, mj_10, mj_01, mj_n10, mj_0n1, mj_1n1, mj_n11, mj_bi_some, mj_bv_some, mj_bj_some, mj_br_some, mj_r0, mj_r1, mj_q0, mj_q1, mj_b01, mj_q2, if_true, if_false, mj_it, mj_if, true_and, and_true, false_and, and_false, not_true_eq_false, not_false_eq_true, true_or, or_true, false_or, or_false, mj_nIle, mj_nIlt, mj_nIeq, mj_nI0, mj_nIc, mj_nIadd, mj_nIs, mj_ez, mj_ze, mj_eo, mj_ltz, mj_lez, mj_zlt, mj_olt, mj_lto, mj_leo, mj_ole, mj_nIn, mj_nnI, nl_2, nl_3, nl_4, nl_5, nl_6, nl_7, nl_8, nl_9, nl_10, nl_11, nl_12, nl_13, nl_14, nl_15, nl_16, nl_17, nl_18, nl_19, nl_20, nl_21, nl_22, nl_23, nl_24, nl_25, nl_26, nl_27, nl_28, nl_29, nl_30, nl_32, nl_33, nl_34, nl_35, nl_36, nl_37, nl_38, nl_39, nl_40, nl_41, nl_42, nl_43, nl_44, nl_45, nl_46, nl_47, nl_48, nl_49, nl_50, nl_51, nl_52, nl_53, nl_54, nl_55, nl_56, nl_57, nl_58, nl_59, nl_60, nl_61, nl_62, nl_64, nl_65, nl_66, nl_67, nl_68, nl_69, nl_92, nl_97, nl_99, nl_100, nl_122, nl_127, nl_128, nl_131, nl_132, nl_150, nl_200, nl_255, nl_256, nl_300, nl_342, nl_380, nl_381, nl_400, nl_401, nl_420, nl_500, nl_600, nl_800, nl_999, nl_1000, nl_1023, nl_1024, nl_1200, nl_2048, nl_2100, nl_4096, nl_9999, nl_10000, nl_10240, nl_999999, nl_1000000, if_pos, if_neg, g0, k1, k2, nj, n16, s_place, g31_62, g31_71, s_hX, hb1, g31_80, e8, g31_110]
        · show h 198 (8 * x + y) = _
          rw [iv_cnt_s, if_neg (show ¬ B x y j = true by rw [hB]; exact fun z => hb (of_decide_eq_true z).1), Nat.add_zero]
          exact b1 x y hx hy
  · obtain ⟨a1, a2⟩ := hI
    have n64 : ¬ 64 ≤ j := by omega
    refine ⟨mj_u h 198 j 0, ?_, fun k hk => ?_, fun a k ha => by rw [mj_u_pt (by omega)]; exact a2 a k ha⟩
    · show mj_den mj_P E (d + 2) 31 2 [.ref 194, .int (nI T), .ref 26, .int (nI j), .float 0, .float 0, .float 0] [] (mj_hw w c h hl) = mj_den mj_P E (d + 2) 31 2 [.ref 194, .int (nI T), .ref 26, .int (nI (j + 1)), .float 0, .float 0, .float 0] [] (mj_hw w c (mj_u h 198 j 0) hl)
      rw [g31_2, e64]
      simp (disch := omega) only [↓reduceIte, Bool.false_eq_true, eq_self, mj_10, mj_01, mj_n10, mj_0n1, mj_1n1, mj_n11, mj_bi_some, mj_bv_some, mj_bj_some, mj_br_some, mj_r0, mj_r1, mj_q0, mj_q1, mj_b01, mj_q2, if_true, if_false, mj_it, mj_if, true_and, and_true, false_and, and_false, not_true_eq_false, not_false_eq_true, true_or, or_true, false_or, or_false, mj_nIle, mj_nIlt, mj_nIeq, mj_nI0, mj_nIc, mj_nIadd, mj_nIs, mj_ez, mj_ze, mj_eo, mj_ltz, mj_lez, mj_zlt, mj_olt, mj_lto, mj_leo, mj_ole, mj_nIn, mj_nnI, nl_2, nl_3, nl_4, nl_5, nl_6, nl_7, nl_8, nl_9, nl_10, nl_11, nl_12, nl_13, nl_14, nl_15, nl_16, nl_17, nl_18, nl_19, nl_20, nl_21, nl_22, nl_23, nl_24, nl_25, nl_26, nl_27, nl_28, nl_29, nl_30, nl_32, nl_33, nl_34, nl_35, nl_36, nl_37, nl_38, nl_39, nl_40, nl_41, nl_42, nl_43, nl_44, nl_45, nl_46, nl_47, nl_48, nl_49, nl_50, nl_51, nl_52, nl_53, nl_54, nl_55, nl_56, nl_57, nl_58, nl_59, nl_60, nl_61, nl_62, nl_64, nl_65, nl_66, nl_67, nl_68, nl_69, nl_92, nl_97, nl_99, nl_100, nl_122, nl_127, nl_128, nl_131, nl_132, nl_150, nl_200, nl_255, nl_256, nl_300, nl_342, nl_380, nl_381, nl_400, nl_401, nl_420, nl_500, nl_600, nl_800, nl_999, nl_1000, nl_1023, nl_1024, nl_1200, nl_2048, nl_2100, nl_4096, nl_9999, nl_10000, nl_10240, nl_999999, nl_1000000, if_pos, if_neg, n64, hj]
    · by_cases hkj : k = j
      · subst hkj; exact mj_u_eq
      · rw [mj_u_pt (by omega)]; exact a1 k (by omega)
/-- what it costs that k comes behind s, with o last -/
theorem s_costB {T s k : Nat} {o : Option Nat} {P : Nat → Nat → Nat} {Q : Nat → Nat} (hm : mj_pc 10 T ≤ 8) (hs : s < 2 ^ mj_pc 10 T) (hk : k < mj_pc 10 T) (ho : ∀ j, o = some j → j < mj_pc 10 T) (hP : ∀ x y, x < mj_pc 10 T → y < mj_pc 10 T → hi 198 (8 * x + y) = nI (P (wm T x) (wm T y))) (hQ : hi 201 (8 * (s ||| 2 ^ k) + k) = nI (Q (11 * wim T (s ||| 2 ^ k) + wm T k))) : mj_dc mj_P E (d + 1) 32 [.ref 194, .int (nI s), .int (wz_io o), .int (nI k)] (mj_hw w c hi hl) = some (some (.int (nI (sa_g P Q (wim T s) (sa_l T o) (wm T k)))), mj_hw w c hi hl) := by
  have h256 : 2 ^ mj_pc 10 T ≤ 256 := Nat.pow_le_pow_right (n := 2) (by omega) hm
  have hlt : s ||| 2 ^ k < 2 ^ mj_pc 10 T := Nat.or_lt_two_pow hs (Nat.pow_lt_pow_right (by omega) hk)
  have e1 : (nI s ||| ((1 : Int32) <<< (nI k &&& 31))) * nI 8 + nI k = nI (8 * (s ||| 2 ^ k) + k) := by rw [bx_one k (by omega), bx_or, mj_nImul, mj_nIadd, Nat.mul_comm]
  rw [wim_or hk] at hQ
  cases o with
  | none =>
    simp (disch := omega) only [e32, q32_0, q32_32, wz_io, ↓reduceIte, Bool.false_eq_true, eq_self, mj_10, mj_01, mj_n10, mj_0n1, mj_1n1, mj_n11, mj_bi_some, mj_bv_some, mj_bj_some, mj_br_some, mj_r0, mj_r1, mj_q0, mj_q1, mj_b01, mj_q2, if_true, if_false, mj_it, mj_if, true_and, and_true, false_and, and_false, not_true_eq_false, not_false_eq_true, true_or, or_true, false_or, or_false, mj_nIle, mj_nIlt, mj_nIeq, mj_nI0, mj_nIc, mj_nIadd, mj_nIs, mj_ez, mj_ze, mj_eo, mj_ltz, mj_lez, mj_zlt, mj_olt, mj_lto, mj_leo, mj_ole, mj_nIn, mj_nnI, nl_2, nl_3, nl_4, nl_5, nl_6, nl_7, nl_8, nl_9, nl_10, nl_11, nl_12, nl_13, nl_14, nl_15, nl_16, nl_17, nl_18, nl_19, nl_20, nl_21, nl_22, nl_23, nl_24, nl_25, nl_26, nl_27, nl_28, nl_29, nl_30, nl_32, nl_33, nl_34, nl_35, nl_36, nl_37, nl_38, nl_39, nl_40, nl_41, nl_42, nl_43, nl_44, nl_45, nl_46, nl_47, nl_48, nl_49, nl_50, nl_51, nl_52, nl_53, nl_54, nl_55, nl_56, nl_57, nl_58, nl_59, nl_60, nl_61, nl_62, nl_64, nl_65, nl_66, nl_67, nl_68, nl_69, nl_92, nl_97, nl_99, nl_100, nl_122, nl_127, nl_128, nl_131, nl_132, nl_150, nl_200, nl_255, nl_256, nl_300, nl_342, nl_380, nl_381, nl_400, nl_401, nl_420, nl_500, nl_600, nl_800, nl_999, nl_1000, nl_1023, nl_1024, nl_1200, nl_2048, nl_2100, nl_4096, nl_9999, nl_10000, nl_10240, nl_999999, nl_1000000, if_pos, if_neg, e1, hQ]
    unfold sa_g sa_b sa_l
    rw [if_pos rfl, Nat.zero_add, Int32.zero_add]
  | some j =>
    have hj := ho j rfl
    have e2 : nI j * nI 8 + nI k = nI (8 * j + k) := by rw [mj_nImul, mj_nIadd, Nat.mul_comm]
    have e3 : nI k * nI 8 + nI j = nI (8 * k + j) := by rw [mj_nImul, mj_nIadd, Nat.mul_comm]
    have p1 := hP j k hj hk
    have p2 := hP k j hk hj
    have hj10 := (wm_ok hj).1
    simp (disch := omega) only [e32, q32_0, q32_9, q32_32, wz_io, ↓reduceIte, Bool.false_eq_true, eq_self, mj_10, mj_01, mj_n10, mj_0n1, mj_1n1, mj_n11, mj_bi_some, mj_bv_some, mj_bj_some, mj_br_some, mj_r0, mj_r1, mj_q0, mj_q1, mj_b01, mj_q2, if_true, if_false, mj_it, mj_if, true_and, and_true, false_and, and_false, not_true_eq_false, not_false_eq_true, true_or, or_true, false_or, or_false, mj_nIle, mj_nIlt, mj_nIeq, mj_nI0, mj_nIc, mj_nIadd, mj_nIs, mj_ez, mj_ze, mj_eo, mj_ltz, mj_lez, mj_zlt, mj_olt, mj_lto, mj_leo, mj_ole, mj_nIn, mj_nnI, nl_2, nl_3, nl_4, nl_5, nl_6, nl_7, nl_8, nl_9, nl_10, nl_11, nl_12, nl_13, nl_14, nl_15, nl_16, nl_17, nl_18, nl_19, nl_20, nl_21, nl_22, nl_23, nl_24, nl_25, nl_26, nl_27, nl_28, nl_29, nl_30, nl_32, nl_33, nl_34, nl_35, nl_36, nl_37, nl_38, nl_39, nl_40, nl_41, nl_42, nl_43, nl_44, nl_45, nl_46, nl_47, nl_48, nl_49, nl_50, nl_51, nl_52, nl_53, nl_54, nl_55, nl_56, nl_57, nl_58, nl_59, nl_60, nl_61, nl_62, nl_64, nl_65, nl_66, nl_67, nl_68, nl_69, nl_92, nl_97, nl_99, nl_100, nl_122, nl_127, nl_128, nl_131, nl_132, nl_150, nl_200, nl_255, nl_256, nl_300, nl_342, nl_380, nl_381, nl_400, nl_401, nl_420, nl_500, nl_600, nl_800, nl_999, nl_1000, nl_1023, nl_1024, nl_1200, nl_2048, nl_2100, nl_4096, nl_9999, nl_10000, nl_10240, nl_999999, nl_1000000, if_pos, if_neg, e1, e2, e3, p1, p2, hQ]
    unfold sa_g sa_b sa_l
    rw [if_neg (by show ¬ wm T j = 10; omega)]
theorem s_bestSeat {T s : Nat} {o : Option Nat} {P : Nat → Nat → Nat} {Q : Nat → Nat} (hm : mj_pc 10 T ≤ 8) (hs : s < 2 ^ mj_pc 10 T) (ho : ∀ j, o = some j → j < mj_pc 10 T) (h0 : hi 194 0 = nI (mj_pc 10 T)) (hP : ∀ x y, x < mj_pc 10 T → y < mj_pc 10 T → hi 198 (8 * x + y) = nI (P (wm T x) (wm T y))) (hQ : ∀ k, k < mj_pc 10 T → s.testBit k = false → hi 201 (8 * (s ||| 2 ^ k) + k) = nI (Q (11 * wim T (s ||| 2 ^ k) + wm T k)) ∧ sa_g P Q (wim T s) (sa_l T o) (wm T k) ≤ 30000) : mj_dc mj_P E (d + 2) 33 [.ref 194, .int (nI s), .int (wz_io o)] (mj_hw w c hi hl) = some (some (.int (wz_io (wz_ix (fun k => sa_g P Q (wim T s) (sa_l T o) (wm T k)) s (mj_pc 10 T)))), mj_hw w c hi hl) := by
  have h256 : 2 ^ mj_pc 10 T ≤ 256 := Nat.pow_le_pow_right (n := 2) (by omega) hm
  have hc : ∀ k, k < mj_pc 10 T → s.testBit k = false → mj_dc mj_P E (d + 1) 32 [.ref 194, .int (nI s), .int (wz_io o), .int (nI k)] (mj_hw w c hi hl) = some (some (.int (nI (sa_g P Q (wim T s) (sa_l T o) (wm T k)))), mj_hw w c hi hl) ∧ sa_g P Q (wim T s) (sa_l T o) (wm T k) ≤ 30000 := fun k hk hb => ⟨s_costB hm hs hk ho hP (hQ k hk hb).1, (hQ k hk hb).2⟩
  obtain ⟨g, hg⟩ : ∃ g : Nat → Nat, g = fun k => sa_g P Q (wim T s) (sa_l T o) (wm T k) := ⟨_, rfl⟩
  have hgk : ∀ k, sa_g P Q (wim T s) (sa_l T o) (wm T k) = g k := fun k => by rw [hg]
  rw [← hg]
  simp only [hgk] at hc
  generalize mj_pc 10 T = n at hm hs h0 h256 hc
  generalize wz_io o = v2 at hc
  rw [xg33, g33_0]
  have key := lp_ex (fun k (q : Int32 × Value) => mj_den mj_P E (d + 1) 33 8 [.ref 194, .int (nI s), .int v2, .int (wz_io (wz_ix g s k)), .int q.1, .int (nI k), q.2] [] (mj_hw w c hi hl)) (fun k q => ∀ i, wz_ix g s k = some i → q.1 = nI (g i)) n (fun k q hk hI => ?_) (0, .float 0) (fun i h => by cases h)
  · obtain ⟨⟨v5, u7⟩, e, _⟩ := key
    refine Eq.trans e ?_
    show mj_den mj_P E (d + 1) 33 8 [.ref 194, .int (nI s), .int v2, .int (wz_io (wz_ix g s n)), .int v5, .int (nI n), u7] [] (mj_hw w c hi hl) = _
    rw [g33_8, h0, if_pos (Int32.le_refl _), g33_61]
  · obtain ⟨v5, u7⟩ := q
    simp only at hI
    show ∃ q' : Int32 × Value, mj_den mj_P E (d + 1) 33 8 [.ref 194, .int (nI s), .int v2, .int (wz_io (wz_ix g s k)), .int v5, .int (nI k), u7] [] (mj_hw w c hi hl) = mj_den mj_P E (d + 1) 33 8 [.ref 194, .int (nI s), .int v2, .int (wz_io (wz_ix g s (k + 1))), .int q'.1, .int (nI (k + 1)), q'.2] [] (mj_hw w c hi hl) ∧ _
    have nk : ¬ n ≤ k := by omega
    by_cases hbk : s.testBit k = true
    · refine ⟨(v5, u7), ?_, ?_⟩
      · rw [wz_ix_t hbk, g33_8, h0]
        simp (disch := omega) only [↓reduceIte, Bool.false_eq_true, eq_self, mj_10, mj_01, mj_n10, mj_0n1, mj_1n1, mj_n11, mj_bi_some, mj_bv_some, mj_bj_some, mj_br_some, mj_r0, mj_r1, mj_q0, mj_q1, mj_b01, mj_q2, if_true, if_false, mj_it, mj_if, true_and, and_true, false_and, and_false, not_true_eq_false, not_false_eq_true, true_or, or_true, false_or, or_false, mj_nIle, mj_nIlt, mj_nIeq, mj_nI0, mj_nIc, mj_nIadd, mj_nIs, mj_ez, mj_ze, mj_eo, mj_ltz, mj_lez, mj_zlt, mj_olt, mj_lto, mj_leo, mj_ole, mj_nIn, mj_nnI, nl_2, nl_3, nl_4, nl_5, nl_6, nl_7, nl_8, nl_9, nl_10, nl_11, nl_12, nl_13, nl_14, nl_15, nl_16, nl_17, nl_18, nl_19, nl_20, nl_21, nl_22, nl_23, nl_24, nl_25, nl_26, nl_27, nl_28, nl_29, nl_30, nl_32, nl_33, nl_34, nl_35, nl_36, nl_37, nl_38, nl_39, nl_40, nl_41, nl_42, nl_43, nl_44, nl_45, nl_46, nl_47, nl_48, nl_49, nl_50, nl_51, nl_52, nl_53, nl_54, nl_55, nl_56, nl_57, nl_58, nl_59, nl_60, nl_61, nl_62, nl_64, nl_65, nl_66, nl_67, nl_68, nl_69, nl_92, nl_97, nl_99, nl_100, nl_122, nl_127, nl_128, nl_131, nl_132, nl_150, nl_200, nl_255, nl_256, nl_300, nl_342, nl_380, nl_381, nl_400, nl_401, nl_420, nl_500, nl_600, nl_800, nl_999, nl_1000, nl_1023, nl_1024, nl_1200, nl_2048, nl_2100, nl_4096, nl_9999, nl_10000, nl_10240, nl_999999, nl_1000000, if_pos, if_neg, s_hX, hbk, nk, g33_23, g33_55]
      · rw [wz_ix_t hbk]; exact hI
    · have hbk2 : s.testBit k = false := by simpa using hbk
      obtain ⟨b1, b2⟩ := hc k hk hbk2
      cases hw : wz_ix g s k with
      | none =>
        refine ⟨(nI (g k), .int (nI (g k))), ?_, ?_⟩
        · rw [wz_ix_n hbk hw, g33_8, h0]
          simp (disch := omega) only [↓reduceIte, Bool.false_eq_true, eq_self, mj_10, mj_01, mj_n10, mj_0n1, mj_1n1, mj_n11, mj_bi_some, mj_bv_some, mj_bj_some, mj_br_some, mj_r0, mj_r1, mj_q0, mj_q1, mj_b01, mj_q2, if_true, if_false, mj_it, mj_if, true_and, and_true, false_and, and_false, not_true_eq_false, not_false_eq_true, true_or, or_true, false_or, or_false, mj_nIle, mj_nIlt, mj_nIeq, mj_nI0, mj_nIc, mj_nIadd, mj_nIs, mj_ez, mj_ze, mj_eo, mj_ltz, mj_lez, mj_zlt, mj_olt, mj_lto, mj_leo, mj_ole, mj_nIn, mj_nnI, nl_2, nl_3, nl_4, nl_5, nl_6, nl_7, nl_8, nl_9, nl_10, nl_11, nl_12, nl_13, nl_14, nl_15, nl_16, nl_17, nl_18, nl_19, nl_20, nl_21, nl_22, nl_23, nl_24, nl_25, nl_26, nl_27, nl_28, nl_29, nl_30, nl_32, nl_33, nl_34, nl_35, nl_36, nl_37, nl_38, nl_39, nl_40, nl_41, nl_42, nl_43, nl_44, nl_45, nl_46, nl_47, nl_48, nl_49, nl_50, nl_51, nl_52, nl_53, nl_54, nl_55, nl_56, nl_57, nl_58, nl_59, nl_60, nl_61, nl_62, nl_64, nl_65, nl_66, nl_67, nl_68, nl_69, nl_92, nl_97, nl_99, nl_100, nl_122, nl_127, nl_128, nl_131, nl_132, nl_150, nl_200, nl_255, nl_256, nl_300, nl_342, nl_380, nl_381, nl_400, nl_401, nl_420, nl_500, nl_600, nl_800, nl_999, nl_1000, nl_1023, nl_1024, nl_1200, nl_2048, nl_2100, nl_4096, nl_9999, nl_10000, nl_10240, nl_999999, nl_1000000, if_pos, if_neg, s_hX, hbk, nk, g33_23, b1, g33_34, g33_48, g33_55, wz_io]
        · rw [wz_ix_n hbk hw]; intro i h; cases h; rfl
      | some j =>
        have hv := hI j hw
        obtain ⟨j1, j2, _, _⟩ := (wz_ix_ok _ s k).2 j hw
        have gj := (hc j (by omega) j2).2
        rw [hv]
        by_cases hlt2 : g k < g j
        · have nle : ¬ g j ≤ g k := by omega
          refine ⟨(nI (g k), .int (nI (g k))), ?_, ?_⟩
          · rw [wz_ix_s hbk hw, if_pos hlt2, g33_8, h0]
            simp (disch := omega) only [↓reduceIte, Bool.false_eq_true, eq_self, mj_10, mj_01, mj_n10, mj_0n1, mj_1n1, mj_n11, mj_bi_some, mj_bv_some, mj_bj_some, mj_br_some, mj_r0, mj_r1, mj_q0, mj_q1, mj_b01, mj_q2, if_true, if_false, mj_it, mj_if, true_and, and_true, false_and, and_false, not_true_eq_false, not_false_eq_true, true_or, or_true, false_or, or_false, mj_nIle, mj_nIlt, mj_nIeq, mj_nI0, mj_nIc, mj_nIadd, mj_nIs, mj_ez, mj_ze, mj_eo, mj_ltz, mj_lez, mj_zlt, mj_olt, mj_lto, mj_leo, mj_ole, mj_nIn, mj_nnI, nl_2, nl_3, nl_4, nl_5, nl_6, nl_7, nl_8, nl_9, nl_10, nl_11, nl_12, nl_13, nl_14, nl_15, nl_16, nl_17, nl_18, nl_19, nl_20, nl_21, nl_22, nl_23, nl_24, nl_25, nl_26, nl_27, nl_28, nl_29, nl_30, nl_32, nl_33, nl_34, nl_35, nl_36, nl_37, nl_38, nl_39, nl_40, nl_41, nl_42, nl_43, nl_44, nl_45, nl_46, nl_47, nl_48, nl_49, nl_50, nl_51, nl_52, nl_53, nl_54, nl_55, nl_56, nl_57, nl_58, nl_59, nl_60, nl_61, nl_62, nl_64, nl_65, nl_66, nl_67, nl_68, nl_69, nl_92, nl_97, nl_99, nl_100, nl_122, nl_127, nl_128, nl_131, nl_132, nl_150, nl_200, nl_255, nl_256, nl_300, nl_342, nl_380, nl_381, nl_400, nl_401, nl_420, nl_500, nl_600, nl_800, nl_999, nl_1000, nl_1023, nl_1024, nl_1200, nl_2048, nl_2100, nl_4096, nl_9999, nl_10000, nl_10240, nl_999999, nl_1000000, if_pos, if_neg, s_hX, hbk, nk, g33_23, b1, g33_34, g33_48, g33_55, wz_io, nle]
          · rw [wz_ix_s hbk hw, if_pos hlt2]; intro i h; cases h; rfl
        · have nle : g j ≤ g k := by omega
          refine ⟨(nI (g j), .int (nI (g k))), ?_, ?_⟩
          · rw [wz_ix_s hbk hw, if_neg hlt2, g33_8, h0]
            simp (disch := omega) only [↓reduceIte, Bool.false_eq_true, eq_self, mj_10, mj_01, mj_n10, mj_0n1, mj_1n1, mj_n11, mj_bi_some, mj_bv_some, mj_bj_some, mj_br_some, mj_r0, mj_r1, mj_q0, mj_q1, mj_b01, mj_q2, if_true, if_false, mj_it, mj_if, true_and, and_true, false_and, and_false, not_true_eq_false, not_false_eq_true, true_or, or_true, false_or, or_false, mj_nIle, mj_nIlt, mj_nIeq, mj_nI0, mj_nIc, mj_nIadd, mj_nIs, mj_ez, mj_ze, mj_eo, mj_ltz, mj_lez, mj_zlt, mj_olt, mj_lto, mj_leo, mj_ole, mj_nIn, mj_nnI, nl_2, nl_3, nl_4, nl_5, nl_6, nl_7, nl_8, nl_9, nl_10, nl_11, nl_12, nl_13, nl_14, nl_15, nl_16, nl_17, nl_18, nl_19, nl_20, nl_21, nl_22, nl_23, nl_24, nl_25, nl_26, nl_27, nl_28, nl_29, nl_30, nl_32, nl_33, nl_34, nl_35, nl_36, nl_37, nl_38, nl_39, nl_40, nl_41, nl_42, nl_43, nl_44, nl_45, nl_46, nl_47, nl_48, nl_49, nl_50, nl_51, nl_52, nl_53, nl_54, nl_55, nl_56, nl_57, nl_58, nl_59, nl_60, nl_61, nl_62, nl_64, nl_65, nl_66, nl_67, nl_68, nl_69, nl_92, nl_97, nl_99, nl_100, nl_122, nl_127, nl_128, nl_131, nl_132, nl_150, nl_200, nl_255, nl_256, nl_300, nl_342, nl_380, nl_381, nl_400, nl_401, nl_420, nl_500, nl_600, nl_800, nl_999, nl_1000, nl_1023, nl_1024, nl_1200, nl_2048, nl_2100, nl_4096, nl_9999, nl_10000, nl_10240, nl_999999, nl_1000000, if_pos, if_neg, s_hX, hbk, nk, g33_23, b1, g33_34, g33_48, g33_55, wz_io, nle]
          · rw [wz_ix_s hbk hw, if_neg hlt2]; intro i h; cases h; rfl
end MJ89x3
