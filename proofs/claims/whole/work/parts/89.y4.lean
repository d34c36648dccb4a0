section MJ89y4
variable {E : mj_E} {d w c : Nat} {hi : mj_HI} {hl : Nat → Nat → Int64}
theorem s_isRound {x y : Nat → Nat} {n s : Nat} {b : Bool} (n12 : n ≤ 12) (hs : s < 4096) (h0 : hi 205 58 = nI n) (hx : ∀ i, i < n → hi 237 i = nI (x i) ∧ x i ≤ 99) (hy : ∀ i, i < n → hi 238 i = nI (y i) ∧ y i ≤ 99) (hb : b = true ↔ ∀ i, i < n → s.testBit i = true → iv_cnt (fun o => s.testBit o && decide (x o = x i)) n = iv_cnt (fun o => s.testBit o && decide (y o = x i)) n) : mj_dc mj_P E (d + 2) 277 [.ref 205, .int (nI s)] (mj_hw w c hi hl) = some (some (.int (if b = true then 1 else 0)), mj_hw w c hi hl) := by
  -- the inner count
  have hin : ∀ i, i < n → mj_den mj_P E (d + 1) 277 27 [.ref 205, .int (nI s), .int (nI i), .int 0, .int 0] [] (mj_hw w c hi hl) = mj_den mj_P E (d + 1) 277 95 [.ref 205, .int (nI s), .int (nI i), .int (nI (iv_cnt (fun o => s.testBit o && decide (x o = x i)) n) - nI (iv_cnt (fun o => s.testBit o && decide (y o = x i)) n)), .int (nI n)] [] (mj_hw w c hi hl) := by
    intro i hin
    obtain ⟨xi, xi2⟩ := hx i hin
    have l1 := lp_up (fun o => mj_den mj_P E (d + 1) 277 27 [.ref 205, .int (nI s), .int (nI i), .int (nI (iv_cnt (fun o => s.testBit o && decide (x o = x i)) o) - nI (iv_cnt (fun o => s.testBit o && decide (y o = x i)) o)), .int (nI o)] [] (mj_hw w c hi hl)) n (fun o ho => by
      show mj_den mj_P E (d + 1) 277 27 [.ref 205, .int (nI s), .int (nI i), .int (nI (iv_cnt (fun o => s.testBit o && decide (x o = x i)) o) - nI (iv_cnt (fun o => s.testBit o && decide (y o = x i)) o)), .int (nI o)] [] (mj_hw w c hi hl) = mj_den mj_P E (d + 1) 277 27 [.ref 205, .int (nI s), .int (nI i), .int (nI (iv_cnt (fun o => s.testBit o && decide (x o = x i)) (o + 1)) - nI (iv_cnt (fun o => s.testBit o && decide (y o = x i)) (o + 1))), .int (nI (o + 1))] [] (mj_hw w c hi hl)
      obtain ⟨xo, xo2⟩ := hx o ho
      obtain ⟨yo, yo2⟩ := hy o ho
      have no : ¬ n ≤ o := by omega
      rw [g277_27, h0, iv_cnt_s, iv_cnt_s]
      generalize iv_cnt (fun o => s.testBit o && decide (x o = x i)) o = A
      generalize iv_cnt (fun o => s.testBit o && decide (y o = x i)) o = B
      have a1 : (nI A - nI B) + 1 = nI (A + 1) - nI B := by rw [← mj_nIs A]; grind
      have a2 : (nI A - nI B) - 1 = nI A - nI (B + 1) := by rw [← mj_nIs B]; grind
      have a3 : (nI (A + 1) - nI B) - 1 = nI (A + 1) - nI (B + 1) := by rw [← mj_nIs B]; grind
      by_cases hbo : s.testBit o = true
      · by_cases q1 : x o = x i
        · by_cases q2 : y o = x i
          · rw [if_pos (show (s.testBit o && decide (x o = x i)) = true by rw [hbo, decide_eq_true q1]; rfl), if_pos (show (s.testBit o && decide (y o = x i)) = true by rw [hbo, decide_eq_true q2]; rfl)]
            simp (disch := omega) only [↓reduceIte, Bool.false_eq_true, eq_self, mj_10, mj_01, mj_n10, mj_0n1, mj_1n1, mj_n11, mj_bi_some, mj_bv_some, mj_bj_some, mj_br_some, mj_r0, mj_r1, mj_q0, mj_q1, mj_b01, mj_q2, if_true, if_false, mj_it, mj_if, true_and, and_true, false_and, and_false, not_true_eq_false, not_false_eq_true, true_or, or_true, false_or, or_false, mj_nIle, mj_nIlt, mj_nIeq, mj_nI0, mj_nIc, mj_nIadd, mj_nIs, mj_ez, mj_ze, mj_eo, mj_ltz, mj_lez, mj_zlt, mj_olt, mj_lto, mj_leo, mj_ole, mj_nIn, mj_nnI, nl_2, nl_3, nl_4, nl_5, nl_6, nl_7, nl_8, nl_9, nl_10, nl_11, nl_12, nl_13, nl_14, nl_15, nl_16, nl_17, nl_18, nl_19, nl_20, nl_21, nl_22, nl_23, nl_24, nl_25, nl_26, nl_27, nl_28, nl_29, nl_30, nl_32, nl_33, nl_34, nl_35, nl_36, nl_37, nl_38, nl_39, nl_40, nl_41, nl_42, nl_43, nl_44, nl_45, nl_46, nl_47, nl_48, nl_49, nl_50, nl_51, nl_52, nl_53, nl_54, nl_55, nl_56, nl_57, nl_58, nl_59, nl_60, nl_61, nl_62, nl_64, nl_65, nl_66, nl_67, nl_68, nl_69, nl_92, nl_97, nl_99, nl_100, nl_122, nl_127, nl_128, nl_131, nl_132, nl_150, nl_200, nl_255, nl_256, nl_300, nl_342, nl_380, nl_381, nl_400, nl_401, nl_420, nl_500, nl_600, nl_800, nl_999, nl_1000, nl_1023, nl_1024, nl_1200, nl_2048, nl_2100, nl_4096, nl_9999, nl_10000, nl_10240, nl_999999, nl_1000000, if_pos, if_neg, no, s_hM, hbo, g277_43, xo, yo, xi, g277_49, g277_69, q1, q2, a1, a3, g277_89]
          · rw [if_pos (show (s.testBit o && decide (x o = x i)) = true by rw [hbo, decide_eq_true q1]; rfl), if_neg (show ¬ (s.testBit o && decide (y o = x i)) = true by rw [hbo, decide_eq_false q2]; decide)]
            simp (disch := omega) only [↓reduceIte, Bool.false_eq_true, eq_self, mj_10, mj_01, mj_n10, mj_0n1, mj_1n1, mj_n11, mj_bi_some, mj_bv_some, mj_bj_some, mj_br_some, mj_r0, mj_r1, mj_q0, mj_q1, mj_b01, mj_q2, if_true, if_false, mj_it, mj_if, true_and, and_true, false_and, and_false, not_true_eq_false, not_false_eq_true, true_or, or_true, false_or, or_false, mj_nIle, mj_nIlt, mj_nIeq, mj_nI0, mj_nIc, mj_nIadd, mj_nIs, mj_ez, mj_ze, mj_eo, mj_ltz, mj_lez, mj_zlt, mj_olt, mj_lto, mj_leo, mj_ole, mj_nIn, mj_nnI, nl_2, nl_3, nl_4, nl_5, nl_6, nl_7, nl_8, nl_9, nl_10, nl_11, nl_12, nl_13, nl_14, nl_15, nl_16, nl_17, nl_18, nl_19, nl_20, nl_21, nl_22, nl_23, nl_24, nl_25, nl_26, nl_27, nl_28, nl_29, nl_30, nl_32, nl_33, nl_34, nl_35, nl_36, nl_37, nl_38, nl_39, nl_40, nl_41, nl_42, nl_43, nl_44, nl_45, nl_46, nl_47, nl_48, nl_49, nl_50, nl_51, nl_52, nl_53, nl_54, nl_55, nl_56, nl_57, nl_58, nl_59, nl_60, nl_61, nl_62, nl_64, nl_65, nl_66, nl_67, nl_68, nl_69, nl_92, nl_97, nl_99, nl_100, nl_122, nl_127, nl_128, nl_131, nl_132, nl_150, nl_200, nl_255, nl_256, nl_300, nl_342, nl_380, nl_381, nl_400, nl_401, nl_420, nl_500, nl_600, nl_800, nl_999, nl_1000, nl_1023, nl_1024, nl_1200, nl_2048, nl_2100, nl_4096, nl_9999, nl_10000, nl_10240, nl_999999, nl_1000000, if_pos, if_neg, no, s_hM, hbo, g277_43, xo, yo, xi, g277_49, g277_69, q1, q2, a1, g277_89, Nat.add_zero]
        · by_cases q2 : y o = x i
          · rw [if_neg (show ¬ (s.testBit o && decide (x o = x i)) = true by rw [hbo, decide_eq_false q1]; decide), if_pos (show (s.testBit o && decide (y o = x i)) = true by rw [hbo, decide_eq_true q2]; rfl)]
            simp (disch := omega) only [↓reduceIte, Bool.false_eq_true, eq_self, mj_10, mj_01, mj_n10, mj_0n1, mj_1n1, mj_n11, mj_bi_some, mj_bv_some, mj_bj_some, mj_br_some, mj_r0, mj_r1, mj_q0, mj_q1, mj_b01, mj_q2, if_true, if_false, mj_it, mj_if, true_and, and_true, false_and, and_false, not_true_eq_false, not_false_eq_true, true_or, or_true, false_or, or_false, mj_nIle, mj_nIlt, mj_nIeq, mj_nI0, mj_nIc, mj_nIadd, mj_nIs, mj_ez, mj_ze, mj_eo, mj_ltz, mj_lez, mj_zlt, mj_olt, mj_lto, mj_leo, mj_ole, mj_nIn, mj_nnI, nl_2, nl_3, nl_4, nl_5, nl_6, nl_7, nl_8, nl_9, nl_10, nl_11, nl_12, nl_13, nl_14, nl_15, nl_16, nl_17, nl_18, nl_19, nl_20, nl_21, nl_22, nl_23, nl_24, nl_25, nl_26, nl_27, nl_28, nl_29, nl_30, nl_32, nl_33, nl_34, nl_35, nl_36, nl_37, nl_38, nl_39, nl_40, nl_41, nl_42, nl_43, nl_44, nl_45, nl_46, nl_47, nl_48, nl_49, nl_50, nl_51, nl_52, nl_53, nl_54, nl_55, nl_56, nl_57, nl_58, nl_59, nl_60, nl_61, nl_62, nl_64, nl_65, nl_66, nl_67, nl_68, nl_69, nl_92, nl_97, nl_99, nl_100, nl_122, nl_127, nl_128, nl_131, nl_132, nl_150, nl_200, nl_255, nl_256, nl_300, nl_342, nl_380, nl_381, nl_400, nl_401, nl_420, nl_500, nl_600, nl_800, nl_999, nl_1000, nl_1023, nl_1024, nl_1200, nl_2048, nl_2100, nl_4096, nl_9999, nl_10000, nl_10240, nl_999999, nl_1000000, if_pos, if_neg, no, s_hM, hbo, g277_43, xo, yo, xi, g277_49, g277_69, q1, q2, a2, g277_89, Nat.add_zero]
          · rw [if_neg (show ¬ (s.testBit o && decide (x o = x i)) = true by rw [hbo, decide_eq_false q1]; decide), if_neg (show ¬ (s.testBit o && decide (y o = x i)) = true by rw [hbo, decide_eq_false q2]; decide)]
            simp (disch := omega) only [↓reduceIte, Bool.false_eq_true, eq_self, mj_10, mj_01, mj_n10, mj_0n1, mj_1n1, mj_n11, mj_bi_some, mj_bv_some, mj_bj_some, mj_br_some, mj_r0, mj_r1, mj_q0, mj_q1, mj_b01, mj_q2, if_true, if_false, mj_it, mj_if, true_and, and_true, false_and, and_false, not_true_eq_false, not_false_eq_true, true_or, or_true, false_or, or_false, mj_nIle, mj_nIlt, mj_nIeq, mj_nI0, mj_nIc, mj_nIadd, mj_nIs, mj_ez, mj_ze, mj_eo, mj_ltz, mj_lez, mj_zlt, mj_olt, mj_lto, mj_leo, mj_ole, mj_nIn, mj_nnI, nl_2, nl_3, nl_4, nl_5, nl_6, nl_7, nl_8, nl_9, nl_10, nl_11, nl_12, nl_13, nl_14, nl_15, nl_16, nl_17, nl_18, nl_19, nl_20, nl_21, nl_22, nl_23, nl_24, nl_25, nl_26, nl_27, nl_28, nl_29, nl_30, nl_32, nl_33, nl_34, nl_35, nl_36, nl_37, nl_38, nl_39, nl_40, nl_41, nl_42, nl_43, nl_44, nl_45, nl_46, nl_47, nl_48, nl_49, nl_50, nl_51, nl_52, nl_53, nl_54, nl_55, nl_56, nl_57, nl_58, nl_59, nl_60, nl_61, nl_62, nl_64, nl_65, nl_66, nl_67, nl_68, nl_69, nl_92, nl_97, nl_99, nl_100, nl_122, nl_127, nl_128, nl_131, nl_132, nl_150, nl_200, nl_255, nl_256, nl_300, nl_342, nl_380, nl_381, nl_400, nl_401, nl_420, nl_500, nl_600, nl_800, nl_999, nl_1000, nl_1023, nl_1024, nl_1200, nl_2048, nl_2100, nl_4096, nl_9999, nl_10000, nl_10240, nl_999999, nl_1000000, if_pos, if_neg, no, s_hM, hbo, g277_43, xo, yo, xi, g277_49, g277_69, q1, q2, g277_89, Nat.add_zero]
      · have hbo2 : s.testBit o = false := by simpa using hbo
        rw [if_neg (show ¬ (s.testBit o && decide (x o = x i)) = true by rw [hbo2, Bool.false_and]; decide), if_neg (show ¬ (s.testBit o && decide (y o = x i)) = true by rw [hbo2, Bool.false_and]; decide)]
        simp (disch := omega) only [↓reduceIte, Bool.false_eq_true, eq_self, mj_10, mj_01, mj_n10, mj_0n1, mj_1n1, mj_n11, mj_bi_some, mj_bv_some, mj_bj_some, mj_br_some, mj_r0, mj_r1, mj_q0, mj_q1, mj_b01, mj_q2, if_true, if_false, mj_it, mj_if, true_and, and_true, false_and, and_false, not_true_eq_false, not_false_eq_true, true_or, or_true, false_or, or_false, mj_nIle, mj_nIlt, mj_nIeq, mj_nI0, mj_nIc, mj_nIadd, mj_nIs, mj_ez, mj_ze, mj_eo, mj_ltz, mj_lez, mj_zlt, mj_olt, mj_lto, mj_leo, mj_ole, mj_nIn, mj_nnI, nl_2, nl_3, nl_4, nl_5, nl_6, nl_7, nl_8, nl_9, nl_10, nl_11, nl_12, nl_13, nl_14, nl_15, nl_16, nl_17, nl_18, nl_19, nl_20, nl_21, nl_22, nl_23, nl_24, nl_25, nl_26, nl_27, nl_28, nl_29, nl_30, nl_32, nl_33, nl_34, nl_35, nl_36, nl_37, nl_38, nl_39, nl_40, nl_41, nl_42, nl_43, nl_44, nl_45, nl_46, nl_47, nl_48, nl_49, nl_50, nl_51, nl_52, nl_53, nl_54, nl_55, nl_56, nl_57, nl_58, nl_59, nl_60, nl_61, nl_62, nl_64, nl_65, nl_66, nl_67, nl_68, nl_69, nl_92, nl_97, nl_99, nl_100, nl_122, nl_127, nl_128, nl_131, nl_132, nl_150, nl_200, nl_255, nl_256, nl_300, nl_342, nl_380, nl_381, nl_400, nl_401, nl_420, nl_500, nl_600, nl_800, nl_999, nl_1000, nl_1023, nl_1024, nl_1200, nl_2048, nl_2100, nl_4096, nl_9999, nl_10000, nl_10240, nl_999999, nl_1000000, if_pos, if_neg, no, s_hM, hbo, g277_43, g277_89, Nat.add_zero])
    have l1' : mj_den mj_P E (d + 1) 277 27 [.ref 205, .int (nI s), .int (nI i), .int 0, .int 0] [] (mj_hw w c hi hl) = mj_den mj_P E (d + 1) 277 27 [.ref 205, .int (nI s), .int (nI i), .int (nI (iv_cnt (fun o => s.testBit o && decide (x o = x i)) n) - nI (iv_cnt (fun o => s.testBit o && decide (y o = x i)) n)), .int (nI n)] [] (mj_hw w c hi hl) := Eq.trans (congrArg (fun z => mj_den mj_P E (d + 1) 277 27 [.ref 205, .int (nI s), .int (nI i), .int z, .int 0] [] (mj_hw w c hi hl)) (show (0 : Int32) = nI 0 - nI 0 by decide)) l1
    rw [l1', g277_27, h0, if_pos (Int32.le_refl _)]
  have hbds : ∀ (p : Nat → Bool), iv_cnt p n ≤ 12 := fun p => Nat.le_trans (iv_cnt_bd p n) n12
  have hsub0 : ∀ A B : Nat, A ≤ 12 → B ≤ 12 → (nI A - nI B = (0 : Int32) ↔ A = B) := fun A B h1 h2 => by
    constructor
    · intro h
      have : nI A = nI B := by rw [← Int32.sub_add_cancel (nI A) (nI B), h, Int32.zero_add]
      rw [mj_nIeq (by omega) (by omega)] at this; exact this
    · intro h; rw [h]; exact Int32.sub_self _
  -- a place that stands
  have hgo : ∀ i, i < n → ¬ (s.testBit i = true ∧ ¬ iv_cnt (fun o => s.testBit o && decide (x o = x i)) n = iv_cnt (fun o => s.testBit o && decide (y o = x i)) n) → ∀ u3 u4 : Value, ∃ q : Value × Value, mj_den mj_P E (d + 1) 277 2 [.ref 205, .int (nI s), .int (nI i), u3, u4] [] (mj_hw w c hi hl) = mj_den mj_P E (d + 1) 277 2 [.ref 205, .int (nI s), .int (nI (i + 1)), q.1, q.2] [] (mj_hw w c hi hl) := by
    intro i hin' hnp u3 u4
    have ni : ¬ n ≤ i := by omega
    by_cases hbi : s.testBit i = true
    · have heq : iv_cnt (fun o => s.testBit o && decide (x o = x i)) n = iv_cnt (fun o => s.testBit o && decide (y o = x i)) n := Decidable.byContradiction (fun z => hnp ⟨hbi, z⟩)
      have hz := (hsub0 _ _ (hbds _) (hbds _)).mpr heq
      have h27 := hin i hin'
      rw [hz] at h27
      refine ⟨(.int 0, .int (nI n)), ?_⟩
      rw [g277_2, h0]
      simp (disch := omega) only [↓reduceIte, Bool.false_eq_true, eq_self, mj_10, mj_01, mj_n10, mj_0n1, mj_1n1, mj_n11, mj_bi_some, mj_bv_some, mj_bj_some, mj_br_some, mj_r0, mj_r1, mj_q0, mj_q1, mj_b01, mj_q2, if_true, if_false, mj_it, mj_if, true_and, and_true, false_and, and_false, not_true_eq_false, not_false_eq_true, true_or, or_true, false_or, or_false, mj_nIle, mj_nIlt, mj_nIeq, mj_nI0, mj_nIc, mj_nIadd, mj_nIs, mj_ez, mj_ze, mj_eo, mj_ltz, mj_lez, mj_zlt, mj_olt, mj_lto, mj_leo, mj_ole, mj_nIn, mj_nnI, nl_2, nl_3, nl_4, nl_5, nl_6, nl_7, nl_8, nl_9, nl_10, nl_11, nl_12, nl_13, nl_14, nl_15, nl_16, nl_17, nl_18, nl_19, nl_20, nl_21, nl_22, nl_23, nl_24, nl_25, nl_26, nl_27, nl_28, nl_29, nl_30, nl_32, nl_33, nl_34, nl_35, nl_36, nl_37, nl_38, nl_39, nl_40, nl_41, nl_42, nl_43, nl_44, nl_45, nl_46, nl_47, nl_48, nl_49, nl_50, nl_51, nl_52, nl_53, nl_54, nl_55, nl_56, nl_57, nl_58, nl_59, nl_60, nl_61, nl_62, nl_64, nl_65, nl_66, nl_67, nl_68, nl_69, nl_92, nl_97, nl_99, nl_100, nl_122, nl_127, nl_128, nl_131, nl_132, nl_150, nl_200, nl_255, nl_256, nl_300, nl_342, nl_380, nl_381, nl_400, nl_401, nl_420, nl_500, nl_600, nl_800, nl_999, nl_1000, nl_1023, nl_1024, nl_1200, nl_2048, nl_2100, nl_4096, nl_9999, nl_10000, nl_10240, nl_999999, nl_1000000, if_pos, if_neg, ni, s_hM, hbi, g277_16, g277_22, h27, g277_95, g277_101]
    · refine ⟨(u3, u4), ?_⟩
      rw [g277_2, h0]
      simp (disch := omega) only [↓reduceIte, Bool.false_eq_true, eq_self, mj_10, mj_01, mj_n10, mj_0n1, mj_1n1, mj_n11, mj_bi_some, mj_bv_some, mj_bj_some, mj_br_some, mj_r0, mj_r1, mj_q0, mj_q1, mj_b01, mj_q2, if_true, if_false, mj_it, mj_if, true_and, and_true, false_and, and_false, not_true_eq_false, not_false_eq_true, true_or, or_true, false_or, or_false, mj_nIle, mj_nIlt, mj_nIeq, mj_nI0, mj_nIc, mj_nIadd, mj_nIs, mj_ez, mj_ze, mj_eo, mj_ltz, mj_lez, mj_zlt, mj_olt, mj_lto, mj_leo, mj_ole, mj_nIn, mj_nnI, nl_2, nl_3, nl_4, nl_5, nl_6, nl_7, nl_8, nl_9, nl_10, nl_11, nl_12, nl_13, nl_14, nl_15, nl_16, nl_17, nl_18, nl_19, nl_20, nl_21, nl_22, nl_23, nl_24, nl_25, nl_26, nl_27, nl_28, nl_29, nl_30, nl_32, nl_33, nl_34, nl_35, nl_36, nl_37, nl_38, nl_39, nl_40, nl_41, nl_42, nl_43, nl_44, nl_45, nl_46, nl_47, nl_48, nl_49, nl_50, nl_51, nl_52, nl_53, nl_54, nl_55, nl_56, nl_57, nl_58, nl_59, nl_60, nl_61, nl_62, nl_64, nl_65, nl_66, nl_67, nl_68, nl_69, nl_92, nl_97, nl_99, nl_100, nl_122, nl_127, nl_128, nl_131, nl_132, nl_150, nl_200, nl_255, nl_256, nl_300, nl_342, nl_380, nl_381, nl_400, nl_401, nl_420, nl_500, nl_600, nl_800, nl_999, nl_1000, nl_1023, nl_1024, nl_1200, nl_2048, nl_2100, nl_4096, nl_9999, nl_10000, nl_10240, nl_999999, nl_1000000, if_pos, if_neg, ni, s_hM, hbi, g277_16, g277_101]
  rcases lp_fst (fun i => s.testBit i = true ∧ ¬ iv_cnt (fun o => s.testBit o && decide (x o = x i)) n = iv_cnt (fun o => s.testBit o && decide (y o = x i)) n) n with hall | ⟨i, i1, i2, i3⟩
  · have hbt : b = true := hb.mpr (fun i hi' hbi => Decidable.byContradiction (fun z => hall i hi' ⟨hbi, z⟩))
    have key := lp_ex (fun i (q : Value × Value) => mj_den mj_P E (d + 1) 277 2 [.ref 205, .int (nI s), .int (nI i), q.1, q.2] [] (mj_hw w c hi hl)) (fun _ _ => True) n (fun i q hi' _ => by
      obtain ⟨q', hq⟩ := hgo i hi' (hall i hi') q.1 q.2
      exact ⟨q', hq, trivial⟩) (.float 0, .float 0) trivial
    obtain ⟨⟨u3, u4⟩, ek, _⟩ := key
    have ek' : mj_den mj_P E (d + 1) 277 2 [.ref 205, .int (nI s), .int 0, .float 0, .float 0] [] (mj_hw w c hi hl) = mj_den mj_P E (d + 1) 277 2 [.ref 205, .int (nI s), .int (nI n), u3, u4] [] (mj_hw w c hi hl) := ek
    rw [xg277, g277_0, ek', g277_2, h0, if_pos (Int32.le_refl _), g277_107, if_pos (Or.inr rfl), if_pos hbt]
  · have hbf : ¬ b = true := fun z => i2.2 (hb.mp z i i1 i2.1)
    have key := lp_ex (fun i (q : Value × Value) => mj_den mj_P E (d + 1) 277 2 [.ref 205, .int (nI s), .int (nI i), q.1, q.2] [] (mj_hw w c hi hl)) (fun _ _ => True) i (fun j q hj _ => by
      obtain ⟨q', hq⟩ := hgo j (by omega) (i3 j hj) q.1 q.2
      exact ⟨q', hq, trivial⟩) (.float 0, .float 0) trivial
    obtain ⟨⟨u3, u4⟩, ek, _⟩ := key
    have ek' : mj_den mj_P E (d + 1) 277 2 [.ref 205, .int (nI s), .int 0, .float 0, .float 0] [] (mj_hw w c hi hl) = mj_den mj_P E (d + 1) 277 2 [.ref 205, .int (nI s), .int (nI i), u3, u4] [] (mj_hw w c hi hl) := ek
    have ni : ¬ n ≤ i := by omega
    have hne : ¬ (nI (iv_cnt (fun o => s.testBit o && decide (x o = x i)) n) - nI (iv_cnt (fun o => s.testBit o && decide (y o = x i)) n) = (0 : Int32)) := fun z => i2.2 ((hsub0 _ _ (hbds _) (hbds _)).mp z)
    have hbi := i2.1
    have h27 := hin i i1
    rw [xg277, g277_0, ek', g277_2, h0, if_neg hbf]
    simp (disch := omega) only [↓reduceIte, Bool.false_eq_true, eq_self, mj_10, mj_01, mj_n10, mj_0n1, mj_1n1, mj_n11, mj_bi_some, mj_bv_some, mj_bj_some, mj_br_some, mj_r0, mj_r1, mj_q0, mj_q1, mj_b01, mj_q2, if_true, if_false, mj_it, mj_if, true_and, and_true, false_and, and_false, not_true_eq_false, not_false_eq_true, true_or, or_true, false_or, or_false, mj_nIle, mj_nIlt, mj_nIeq, mj_nI0, mj_nIc, mj_nIadd, mj_nIs, mj_ez, mj_ze, mj_eo, mj_ltz, mj_lez, mj_zlt, mj_olt, mj_lto, mj_leo, mj_ole, mj_nIn, mj_nnI, nl_2, nl_3, nl_4, nl_5, nl_6, nl_7, nl_8, nl_9, nl_10, nl_11, nl_12, nl_13, nl_14, nl_15, nl_16, nl_17, nl_18, nl_19, nl_20, nl_21, nl_22, nl_23, nl_24, nl_25, nl_26, nl_27, nl_28, nl_29, nl_30, nl_32, nl_33, nl_34, nl_35, nl_36, nl_37, nl_38, nl_39, nl_40, nl_41, nl_42, nl_43, nl_44, nl_45, nl_46, nl_47, nl_48, nl_49, nl_50, nl_51, nl_52, nl_53, nl_54, nl_55, nl_56, nl_57, nl_58, nl_59, nl_60, nl_61, nl_62, nl_64, nl_65, nl_66, nl_67, nl_68, nl_69, nl_92, nl_97, nl_99, nl_100, nl_122, nl_127, nl_128, nl_131, nl_132, nl_150, nl_200, nl_255, nl_256, nl_300, nl_342, nl_380, nl_381, nl_400, nl_401, nl_420, nl_500, nl_600, nl_800, nl_999, nl_1000, nl_1023, nl_1024, nl_1200, nl_2048, nl_2100, nl_4096, nl_9999, nl_10000, nl_10240, nl_999999, nl_1000000, if_pos, if_neg, ni, s_hM, hbi, g277_16, g277_22, h27, g277_95, hne]
theorem s_swapsM {x y e f : Nat → Nat} {n : Nat} (n12 : n ≤ 12) (h0 : hi 205 58 = nI n) (hx : ∀ i, i < n → hi 237 i = nI (x i) ∧ x i ≤ 99) (y99 : ∀ k, k < n → y k ≤ 99) (hS : ws_S (fun k => nI (y k)) (fun i => nI (x i)) n) (hey : ∀ i, i < n → e (y i) < n ∧ y (e (y i)) = y i) (hex : ∀ i, i < n → e (x i) < n ∧ y (e (x i)) = x i) (f0 : f 0 = 0) (hf : ∀ s, 0 < s → s < 4096 → f s = bmx (fun i => f (s ^^^ 2 ^ i)) s n + (if decide (wp_cs (fun i => 32 ^ e (y i)) s n = wp_cs (fun i => 32 ^ e (x i)) s n) = true then 1 else 0)) : ∃ g : mj_HI, mj_dc mj_P E (d + 3) 278 [.ref 205] (mj_hw w c hi hl) = some (some (.int (nI n - nI (f (2 ^ n - 1)))), mj_hw w c g hl) ∧ ∀ a k, a ≠ 238 → a ≠ 239 → g a k = hi a k := by
  have hfle := b_le f0 hf
  have h4096 : 2 ^ n ≤ 4096 := Nat.pow_le_pow_right (n := 2) (by omega) n12
  have hpos : 1 ≤ 2 ^ n := Nat.two_pow_pos n
  obtain ⟨g1, e1, a1, a2⟩ := s_stands (E := E) (d := d + 1) (w := w) (c := c) (hi := hi) (hl := hl) (x := x) n12 h0 (fun i hi' => (hx i hi').1) hS
  have g10 : g1 205 58 = nI n := by rw [a2 _ _ (by omega)]; exact h0
  have g1x : ∀ i, i < n → g1 237 i = nI (x i) ∧ x i ≤ 99 := fun i hi' => by rw [a2 _ _ (by omega)]; exact hx i hi'
  have g1y : ∀ i, i < n → g1 238 i = nI (y i) ∧ y i ≤ 99 := fun i hi' => ⟨a1 i hi', y99 i hi'⟩
  have l1 := lp_up (fun k => mj_den mj_P E (d + 2) 278 8 [.ref 205, .int (nI (mj_st (fun i => decide (¬ x i = y i)) k)), .int (nI k), .float 0, .float 0] [] (mj_hw w c g1 hl)) n (fun k hk => by
    show mj_den mj_P E (d + 2) 278 8 [.ref 205, .int (nI (mj_st (fun i => decide (¬ x i = y i)) k)), .int (nI k), .float 0, .float 0] [] (mj_hw w c g1 hl) = mj_den mj_P E (d + 2) 278 8 [.ref 205, .int (nI (mj_st (fun i => decide (¬ x i = y i)) (k + 1))), .int (nI (k + 1)), .float 0, .float 0] [] (mj_hw w c g1 hl)
    obtain ⟨x1, x2⟩ := g1x k hk
    obtain ⟨y1, y2⟩ := g1y k hk
    have nk : ¬ n ≤ k := by omega
    rw [g278_8, g10]
    by_cases hxy : x k = y k
    · rw [mj_st_f (fun z => (of_decide_eq_true z) hxy)]
      simp (disch := omega) only [↓reduceIte, Bool.false_eq_true, eq_self, mj_10, mj_01, mj_n10, mj_0n1, mj_1n1, mj_n11, mj_bi_some, mj_bv_some, mj_bj_some, mj_br_some, mj_r0, mj_r1, mj_q0, mj_q1, mj_b01, mj_q2, if_true, if_false, mj_it, mj_if, true_and, and_true, false_and, and_false, not_true_eq_false, not_false_eq_true, true_or, or_true, false_or, or_false, mj_nIle, mj_nIlt, mj_nIeq, mj_nI0, mj_nIc, mj_nIadd, mj_nIs, mj_ez, mj_ze, mj_eo, mj_ltz, mj_lez, mj_zlt, mj_olt, mj_lto, mj_leo, mj_ole, mj_nIn, mj_nnI, nl_2, nl_3, nl_4, nl_5, nl_6, nl_7, nl_8, nl_9, nl_10, nl_11, nl_12, nl_13, nl_14, nl_15, nl_16, nl_17, nl_18, nl_19, nl_20, nl_21, nl_22, nl_23, nl_24, nl_25, nl_26, nl_27, nl_28, nl_29, nl_30, nl_32, nl_33, nl_34, nl_35, nl_36, nl_37, nl_38, nl_39, nl_40, nl_41, nl_42, nl_43, nl_44, nl_45, nl_46, nl_47, nl_48, nl_49, nl_50, nl_51, nl_52, nl_53, nl_54, nl_55, nl_56, nl_57, nl_58, nl_59, nl_60, nl_61, nl_62, nl_64, nl_65, nl_66, nl_67, nl_68, nl_69, nl_92, nl_97, nl_99, nl_100, nl_122, nl_127, nl_128, nl_131, nl_132, nl_150, nl_200, nl_255, nl_256, nl_300, nl_342, nl_380, nl_381, nl_400, nl_401, nl_420, nl_500, nl_600, nl_800, nl_999, nl_1000, nl_1023, nl_1024, nl_1200, nl_2048, nl_2100, nl_4096, nl_9999, nl_10000, nl_10240, nl_999999, nl_1000000, if_pos, if_neg, nk, x1, y1, hxy, g278_37]
    · rw [mj_st_t (decide_eq_true hxy)]
      simp (disch := omega) only [↓reduceIte, Bool.false_eq_true, eq_self, mj_10, mj_01, mj_n10, mj_0n1, mj_1n1, mj_n11, mj_bi_some, mj_bv_some, mj_bj_some, mj_br_some, mj_r0, mj_r1, mj_q0, mj_q1, mj_b01, mj_q2, if_true, if_false, mj_it, mj_if, true_and, and_true, false_and, and_false, not_true_eq_false, not_false_eq_true, true_or, or_true, false_or, or_false, mj_nIle, mj_nIlt, mj_nIeq, mj_nI0, mj_nIc, mj_nIadd, mj_nIs, mj_ez, mj_ze, mj_eo, mj_ltz, mj_lez, mj_zlt, mj_olt, mj_lto, mj_leo, mj_ole, mj_nIn, mj_nnI, nl_2, nl_3, nl_4, nl_5, nl_6, nl_7, nl_8, nl_9, nl_10, nl_11, nl_12, nl_13, nl_14, nl_15, nl_16, nl_17, nl_18, nl_19, nl_20, nl_21, nl_22, nl_23, nl_24, nl_25, nl_26, nl_27, nl_28, nl_29, nl_30, nl_32, nl_33, nl_34, nl_35, nl_36, nl_37, nl_38, nl_39, nl_40, nl_41, nl_42, nl_43, nl_44, nl_45, nl_46, nl_47, nl_48, nl_49, nl_50, nl_51, nl_52, nl_53, nl_54, nl_55, nl_56, nl_57, nl_58, nl_59, nl_60, nl_61, nl_62, nl_64, nl_65, nl_66, nl_67, nl_68, nl_69, nl_92, nl_97, nl_99, nl_100, nl_122, nl_127, nl_128, nl_131, nl_132, nl_150, nl_200, nl_255, nl_256, nl_300, nl_342, nl_380, nl_381, nl_400, nl_401, nl_420, nl_500, nl_600, nl_800, nl_999, nl_1000, nl_1023, nl_1024, nl_1200, nl_2048, nl_2100, nl_4096, nl_9999, nl_10000, nl_10240, nl_999999, nl_1000000, if_pos, if_neg, nk, x1, y1, hxy, g278_37, bx_one, bx_or])
  obtain ⟨W, hW⟩ : ∃ W, W = mj_st (fun i => decide (¬ x i = y i)) n := ⟨_, rfl⟩
  have hWl : W < 2 ^ n := by rw [hW]; exact mj_st_lt _ n
  have hWb : ∀ i, i < n → W.testBit i = false → x i = y i := fun i hi' hb => by
    rw [hW, mj_st_bit, decide_eq_true hi', Bool.true_and] at hb
    exact Decidable.byContradiction (fun z => by rw [decide_eq_true z] at hb; cases hb)
  have l1' : mj_den mj_P E (d + 2) 278 8 [.ref 205, .int 0, .int 0, .float 0, .float 0] [] (mj_hw w c g1 hl) = mj_den mj_P E (d + 2) 278 8 [.ref 205, .int (nI W), .int (nI n), .float 0, .float 0] [] (mj_hw w c g1 hl) := by rw [hW]; exact l1
  have key := lp_ex (fun j (q : Value × Value × mj_HI) => mj_den mj_P E (d + 2) 278 52 [.ref 205, .int (nI W), .int (nI (j + 1)), q.1, q.2.1] [] (mj_hw w c q.2.2 hl)) (fun j q => (∀ s, s ≤ j → (∀ i, s.testBit i = true → W.testBit i = true) → q.2.2 239 s = nI (f s)) ∧ ∀ a k, a ≠ 239 → q.2.2 a k = g1 a k) W (fun j q hj hI => ?_) (.float 0, .float 0, mj_u g1 239 0 0) ⟨fun s hs _ => by
      show mj_u g1 239 0 0 239 s = _
      rw [show s = 0 by omega, mj_u_eq, f0]; rfl, fun a k ha => by show mj_u g1 239 0 0 a k = _; rw [mj_u_pt (by omega)]⟩
  · obtain ⟨⟨u3, u4, g⟩, ek, k1, k2⟩ := key
    simp only at k1 k2
    have ek' : mj_den mj_P E (d + 2) 278 52 [.ref 205, .int (nI W), .int 1, .float 0, .float 0] [] (mj_hw w c (mj_u g1 239 0 0) hl) = mj_den mj_P E (d + 2) 278 52 [.ref 205, .int (nI W), .int (nI (W + 1)), u3, u4] [] (mj_hw w c g hl) := ek
    have hpc : mj_pc 12 W = mj_pc n W := by
      have : ∀ i, n + i ≤ 12 → mj_pc (n + i) W = mj_pc n W := by
        intro i
        induction i with
        | zero => intro _; rfl
        | succ i ih =>
          intro hi'
          have hb : W.testBit (n + i) = false := Nat.testBit_lt_two_pow (Nat.lt_of_lt_of_le hWl (Nat.pow_le_pow_right (n := 2) (by omega) (by omega)))
          rw [show n + (i + 1) = (n + i) + 1 by omega, mj_pc_s, hb, if_neg (by decide), Nat.add_zero]
          exact ih (by omega)
      have := this (12 - n) (by omega)
      rw [show n + (12 - n) = 12 by omega] at this; exact this
    have hsp := b_split (B := fun s => decide (wp_cs (fun i => 32 ^ e (y i)) s n = wp_cs (fun i => 32 ^ e (x i)) s n)) (W := W) n12 f0 hf (fun s => by
      refine decide_eq_decide.mpr ?_
      have := b_wt (X := fun i => 32 ^ e (x i)) (Y := fun i => 32 ^ e (y i)) (s := s) (W := W) n (fun i hi' hb => by rw [hWb i hi' hb])
      constructor
      · intro h; omega
      · intro h; omega) (decide_eq_true (by rw [wy_cs0, wy_cs0])) (2 ^ n - 1) (by omega)
    have eW : (2 ^ n - 1) &&& W = W := Nat.eq_of_testBit_eq (fun i => by
      rw [Nat.testBit_and, Nat.testBit_two_pow_sub_one]
      by_cases hi' : i < n
      · rw [decide_eq_true hi', Bool.true_and]
      · rw [decide_eq_false hi', Bool.false_and]
        exact (Nat.testBit_lt_two_pow (Nat.lt_of_lt_of_le hWl (Nat.pow_le_pow_right (n := 2) (by omega) (by omega)))).symm)
    have ed : mj_pc n W + mj_pc n (mj_df (2 ^ n - 1) W) = n := by
      have h1 := iv_cnt_add (p := fun i => W.testBit i) (q := fun i => (mj_df (2 ^ n - 1) W).testBit i) (r := fun _ => true) n (fun i hi' => by
        show (W.testBit i = true ∧ (mj_df (2 ^ n - 1) W).testBit i = false ∧ true = true) ∨ (W.testBit i = false ∧ (mj_df (2 ^ n - 1) W).testBit i = true ∧ true = true) ∨ (W.testBit i = false ∧ (mj_df (2 ^ n - 1) W).testBit i = false ∧ true = false)
        rw [mj_df_bit, Nat.testBit_two_pow_sub_one, decide_eq_true hi']
        cases W.testBit i <;> simp)
      have h2 : ∀ m, iv_cnt (fun _ => true) m = m := by
        intro m
        induction m with
        | zero => rfl
        | succ m ih => rw [iv_cnt_s, ih]; rfl
      rw [h2] at h1
      exact h1.symm
    rw [eW] at hsp
    have hfin : nI (mj_pc 12 W) - nI (f W) = nI n - nI (f (2 ^ n - 1)) := by
      rw [hsp, hpc, ← mj_nIadd]
      have : nI n = nI (mj_pc n W) + nI (mj_pc n (mj_df (2 ^ n - 1) W)) := by rw [mj_nIadd, ed]
      rw [this]; grind
    have hlt : nI W < nI (W + 1) := by rw [mj_nIlt (by omega) (by omega)]; omega
    have ho : mj_dc mj_P E (d + 2) 156 [.ref 205, .int (nI W)] (mj_hw w c g hl) = some (some (.int (nI (mj_pc 12 W))), mj_hw w c g hl) := s_ones (d := d + 1) (by omega)
    refine ⟨g, ?_, fun a k h1 h2 => by rw [k2 a k h2]; exact a2 a k h1⟩
    rw [xg278, g278_0, e1, mj_bv_some, g278_4, l1', g278_8, g10, if_pos (Int32.le_refl _), g278_43, if_pos (by decide), vi_c0, ek', g278_52, if_pos hlt, g278_144, ho, mj_bi_some, g278_149, if_pos (by rw [mj_nI0 (by omega), mj_nIc (by omega)]; exact ⟨trivial, by omega⟩), mj_nIc (by omega), k1 W (Nat.le_refl _) (fun _ h => h), hfin]
  · obtain ⟨u3, u4, h⟩ := q
    obtain ⟨k1, k2⟩ := hI
    simp only at k1 k2
    obtain ⟨s, hs⟩ : ∃ s, s = j + 1 := ⟨_, rfl⟩
    have hs1 : 0 < s := by omega
    have hs2 : s ≤ W := by omega
    have hs3 : s < 4096 := by omega
    have nlt : ¬ nI W < nI s := by rw [mj_nIlt (by omega) (by omega)]; omega
    by_cases hsub : ∀ i, s.testBit i = true → W.testBit i = true
    · have hdf : mj_df s W = 0 := mj_df_0.mpr hsub
      have hh0 : h 205 58 = nI n := by rw [k2 _ _ (by omega)]; exact g10
      have hhx : ∀ i, i < n → h 237 i = nI (x i) ∧ x i ≤ 99 := fun i hi' => by rw [k2 _ _ (by omega)]; exact g1x i hi'
      have hhy : ∀ i, i < n → h 238 i = nI (y i) ∧ y i ≤ 99 := fun i hi' => by rw [k2 _ _ (by omega)]; exact g1y i hi'
      have hro := b_round (x := x) (y := y) (e := e) (s := s) n12 hey hex
      have eR := s_isRound (E := E) (d := d) (w := w) (c := c) (hi := h) (hl := hl) (x := x) (y := y) (n := n) (s := s) (b := decide (wp_cs (fun i => 32 ^ e (y i)) s n = wp_cs (fun i => 32 ^ e (x i)) s n)) n12 hs3 hh0 hhx hhy (by rw [decide_eq_true_iff]; exact hro)
      have hfs := hf s hs1 hs3
      obtain ⟨G, hG⟩ : ∃ G : Nat → Nat, G = fun i => f (s ^^^ 2 ^ i) := ⟨_, rfl⟩
      rw [← hG] at hfs
      have hGb : ∀ i, s.testBit i = true → G i ≤ 4096 ∧ h 239 (s ^^^ 2 ^ i) = nI (G i) ∧ s ^^^ 2 ^ i < 4096 := fun i hb => by
        have h1 := bx_xlt hb
        have h2 := hfle (s ^^^ 2 ^ i) (by omega)
        rw [hG]
        refine ⟨by show f (s ^^^ 2 ^ i) ≤ 4096; omega, k1 _ (by omega) (fun i' hi' => hsub i' ?_), by omega⟩
        rw [bx_xbit] at hi'
        by_cases hii : i = i'
        · rw [← hii]; exact hb
        · rw [decide_eq_false hii, Bool.xor_false] at hi'; exact hi'
      have hbm : ∀ k, bmx G s k ≤ 4096 := fun k => by
        rcases (bmx_ok G s k).2 with h | ⟨i, _, i2, i3⟩
        · omega
        · rw [i3]; exact (hGb i i2).1
      have lp := lp_up (fun i => mj_den mj_P E (d + 2) 278 73 [.ref 205, .int (nI W), .int (nI s), .int (nI (bmx G s i)), .int (nI i)] [] (mj_hw w c h hl)) n (fun i hin => by
        show mj_den mj_P E (d + 2) 278 73 [.ref 205, .int (nI W), .int (nI s), .int (nI (bmx G s i)), .int (nI i)] [] (mj_hw w c h hl) = mj_den mj_P E (d + 2) 278 73 [.ref 205, .int (nI W), .int (nI s), .int (nI (bmx G s (i + 1))), .int (nI (i + 1))] [] (mj_hw w c h hl)
        have ni : ¬ n ≤ i := by omega
        rw [g278_73, hh0]
        by_cases hb : s.testBit i = true
        · obtain ⟨b1, b2, b3⟩ := hGb i hb
          have b4 := hbm i
          have ex : nI s &&& (((1 : Int32) <<< (nI i &&& 31)) ^^^ (-1)) = nI (s ^^^ 2 ^ i) := by rw [bx_one i (by omega), bx_df, bx_xdf hb]
          have emx := b_max (a := bmx G s i) (b := G i) (by omega) (by omega)
          rw [bmx_t hb]
          simp (disch := omega) only [↓reduceIte, mj_bi_some, s_hM, hb, ni, mj_nIle, g278_89, mj_b, ex, mj_nI0, mj_nIc, b2, b3, true_and, and_self, s_greater, emx, g278_110, g278_111, mj_nIs, if_true, if_false, mj_10]
        · rw [bmx_f hb]
          simp (disch := omega) only [↓reduceIte, mj_bi_some, s_hM, hb, ni, mj_nIle, g278_89, mj_b, g278_111, mj_nIs, if_false, if_true, Bool.false_eq_true])
      have lp' : mj_den mj_P E (d + 2) 278 73 [.ref 205, .int (nI W), .int (nI s), .int 0, .int 0] [] (mj_hw w c h hl) = mj_den mj_P E (d + 2) 278 73 [.ref 205, .int (nI W), .int (nI s), .int (nI (bmx G s n)), .int (nI n)] [] (mj_hw w c h hl) := lp
      refine ⟨(.int (nI (bmx G s n)), .int (nI n), mj_u h 239 s (nI (f s))), ?_, fun t h1 h2 => ?_, fun a k ha => ?_⟩
      · show mj_den mj_P E (d + 2) 278 52 [.ref 205, .int (nI W), .int (nI (j + 1)), u3, u4] [] (mj_hw w c h hl) = mj_den mj_P E (d + 2) 278 52 [.ref 205, .int (nI W), .int (nI (j + 1 + 1)), .int (nI (bmx G s n)), .int (nI n)] [] (mj_hw w c (mj_u h 239 s (nI (f s))) hl)
        rw [← hs, g278_52, if_neg nlt, bx_df, hdf, if_pos (show nI 0 = 0 from rfl), g278_68, lp', g278_73, hh0, if_pos (Int32.le_refl _), g278_117, eR, mj_bi_some, g278_128]
        by_cases hB : decide (wp_cs (fun i => 32 ^ e (y i)) s n = wp_cs (fun i => 32 ^ e (x i)) s n) = true
        · rw [if_pos hB] at hfs ⊢
          rw [if_neg (by decide), g278_136, if_pos (by rw [mj_nI0 (by omega), mj_nIc (by omega)]; exact ⟨trivial, by omega⟩), mj_nIc (show s < 2147483648 by omega), mj_nIs, g278_138, mj_nIs, hfs]
        · rw [if_neg hB] at hfs ⊢
          rw [Nat.add_zero] at hfs
          rw [if_pos rfl, g278_135, g278_136, if_pos (by rw [mj_nI0 (by omega), mj_nIc (by omega)]; exact ⟨trivial, by omega⟩), mj_nIc (show s < 2147483648 by omega), Int32.add_zero, g278_138, mj_nIs, hfs]
      · show mj_u h 239 s (nI (f s)) 239 t = _
        by_cases hts : t = s
        · rw [hts, mj_u_eq]
        · rw [mj_u_pt (by omega)]; exact k1 t (by omega) h2
      · show mj_u h 239 s (nI (f s)) a k = _
        rw [mj_u_pt (by omega)]; exact k2 a k ha
    · have hdf : ¬ mj_df s W = 0 := fun h => hsub (mj_df_0.mp h)
      have hdl : mj_df s W < 4096 := mj_df_le (n := 12) _ _ (by omega)
      have hne : ¬ nI (mj_df s W) = (0 : Int32) := by rw [mj_ez (by omega)]; exact hdf
      refine ⟨(u3, u4, h), ?_, fun t h1 h2 => ?_, k2⟩
      · show mj_den mj_P E (d + 2) 278 52 [.ref 205, .int (nI W), .int (nI (j + 1)), u3, u4] [] (mj_hw w c h hl) = mj_den mj_P E (d + 2) 278 52 [.ref 205, .int (nI W), .int (nI (j + 1 + 1)), u3, u4] [] (mj_hw w c h hl)
        rw [← hs, g278_52, if_neg nlt, bx_df, if_neg hne, g278_138, mj_nIs]
      · show h 239 t = _
        by_cases hts : t = s
        · rw [hts] at h2; exact absurd h2 hsub
        · exact k1 t (by omega) h2
end MJ89y4
