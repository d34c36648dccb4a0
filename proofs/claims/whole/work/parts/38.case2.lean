/-! lot, set -/
theorem cs_lot (a b : Int32) : mj_Cs 109 171 [.int a, .int b] := by
  intro E d w c hi hl hE hw hI
  obtain ⟨n, l, q⟩ := iv_I_un.mp hI
  obtain ⟨n10, l12, mN, mL⟩ := iv_Jn q
  obtain ⟨⟨a0, a1, a2, a3, a4, a5, a6⟩, hb, x3, x4, x5, x6, x7⟩ := iv_JX q
  by_cases hv : (0 ≤ a ∧ a ≤ nI 5) ∧ (0 ≤ b ∧ b ≤ nI 999) ∧ l < 12
  · obtain ⟨v1, v2, v4⟩ := hv
    obtain ⟨P, hP, rfl⟩ := mj_ofn v2.1
    have hP2 : P ≤ 999 := by have := v2.2; rw [mj_nIle hP (by omega)] at this; exact this
    have hs : nI (l + 1) - 1 = nI l := mj_nIsub (b := 1) (by omega)
    refine ⟨nI l, w, c, mj_u (mj_u (mj_u (mj_u (mj_u hi 91 0 0) 10 l a) 11 l (nI P)) 12 l (-1)) 2 1 (nI (l + 1)), hl, mj_u (mj_u (mj_u (mj_u (mj_u (mj_u (mj_u (mj_u (mj_u (mj_u (mj_u hi 91 0 0) 10 l a) 11 l (nI P)) 12 l (-1)) 2 1 (nI (l + 1))) 205 0 0) 211 l a) 212 l (nI P)) 206 (45 + l) 0) 205 7 (nI (l + 1))) 205 3 0, ?_, ?_, ?_, hw⟩
    · simp (disch := omega) only [q109_0, q109_5, q109_15, q109_33, q109_35, q109_42, q109_54, e109, q73_0, q73_15, q73_17, e73, s_within, s_forget, eq_self, mj_bi_some, mj_bv_some, mj_bj_some, mj_br_some, mj_r0, mj_r1, mj_q0, mj_q1, mj_b01, mj_q2, if_true, if_false, mj_it, mj_if, true_and, and_true, false_and, and_false, not_true_eq_false, not_false_eq_true, true_or, or_true, false_or, or_false, mj_nIle, mj_nIlt, mj_nIeq, mj_nI0, mj_nIc, mj_nIadd, mj_nIs, mj_ez, mj_ze, mj_eo, mj_ltz, mj_lez, mj_zlt, mj_olt, mj_lto, mj_leo, mj_ole, mj_nIn, mj_nnI, nl_2, nl_3, nl_4, nl_5, nl_6, nl_7, nl_8, nl_9, nl_10, nl_11, nl_12, nl_13, nl_14, nl_15, nl_16, nl_17, nl_18, nl_19, nl_20, nl_21, nl_22, nl_23, nl_24, nl_25, nl_26, nl_27, nl_28, nl_29, nl_30, nl_31, nl_32, nl_33, nl_34, nl_35, nl_36, nl_37, nl_38, nl_39, nl_40, nl_41, nl_42, nl_43, nl_44, nl_45, nl_46, nl_47, nl_48, nl_49, nl_50, nl_51, nl_52, nl_53, nl_54, nl_55, nl_56, nl_57, nl_58, nl_59, nl_60, nl_61, nl_62, nl_63, nl_64, nl_65, nl_66, nl_67, nl_68, nl_69, nl_92, nl_97, nl_99, nl_100, nl_122, nl_127, nl_128, nl_131, nl_132, nl_150, nl_200, nl_255, nl_256, nl_300, nl_342, nl_380, nl_381, nl_400, nl_401, nl_420, nl_500, nl_600, nl_800, nl_999, nl_1000, nl_1023, nl_1024, nl_1200, nl_2048, nl_2100, nl_4096, nl_9999, nl_10000, nl_10240, nl_999999, nl_1000000, if_pos, if_neg, v1, v2, a1, mj_u_pt]
    · simp (disch := omega) only [q171_0, q171_12, q171_24, q171_36, q171_38, e171, s_isIn, eq_self, mj_bi_some, mj_bv_some, mj_bj_some, mj_br_some, mj_r0, mj_r1, mj_q0, mj_q1, mj_b01, mj_q2, if_true, if_false, mj_it, mj_if, true_and, and_true, false_and, and_false, not_true_eq_false, not_false_eq_true, true_or, or_true, false_or, or_false, mj_nIle, mj_nIlt, mj_nIeq, mj_nI0, mj_nIc, mj_nIadd, mj_nIs, mj_ez, mj_ze, mj_eo, mj_ltz, mj_lez, mj_zlt, mj_olt, mj_lto, mj_leo, mj_ole, mj_nIn, mj_nnI, nl_2, nl_3, nl_4, nl_5, nl_6, nl_7, nl_8, nl_9, nl_10, nl_11, nl_12, nl_13, nl_14, nl_15, nl_16, nl_17, nl_18, nl_19, nl_20, nl_21, nl_22, nl_23, nl_24, nl_25, nl_26, nl_27, nl_28, nl_29, nl_30, nl_31, nl_32, nl_33, nl_34, nl_35, nl_36, nl_37, nl_38, nl_39, nl_40, nl_41, nl_42, nl_43, nl_44, nl_45, nl_46, nl_47, nl_48, nl_49, nl_50, nl_51, nl_52, nl_53, nl_54, nl_55, nl_56, nl_57, nl_58, nl_59, nl_60, nl_61, nl_62, nl_63, nl_64, nl_65, nl_66, nl_67, nl_68, nl_69, nl_92, nl_97, nl_99, nl_100, nl_122, nl_127, nl_128, nl_131, nl_132, nl_150, nl_200, nl_255, nl_256, nl_300, nl_342, nl_380, nl_381, nl_400, nl_401, nl_420, nl_500, nl_600, nl_800, nl_999, nl_1000, nl_1023, nl_1024, nl_1200, nl_2048, nl_2100, nl_4096, nl_9999, nl_10000, nl_10240, nl_999999, nl_1000000, if_pos, if_neg, v1, v2, mL, mj_u_pt, hs]
    · refine iv_two (n := n) (l := l + 1) (h := mj_u (mj_u (mj_u (mj_u (mj_u hi 91 0 0) 10 l a) 11 l (nI P)) 12 l (-1)) 2 1 (nI (l + 1))) (m := mj_u (mj_u (mj_u (mj_u (mj_u (mj_u hi 205 0 0) 211 l a) 212 l (nI P)) 206 (45 + l) 0) 205 7 (nI (l + 1))) 205 3 0) (fun a k h => ?_) (fun a k h1 h2 => ?_) ?_
      · simp (disch := omega) only [mj_u_pt]
      · simp only [mj_u]
        repeat' split
        all_goals first | rfl | omega
      · refine iv_J_room q (Nat.le_refl _) (by omega) n10 (by omega) (fun a k h => ?_) (fun a k h => ?_) (fun k h => ?_) ?_ ?_ ?_ ?_ ?_ ?_
        · simp (disch := omega) only [mj_u_pt]
        · simp (disch := omega) only [mj_u_pt]
        · simp (disch := omega) only [mj_u_pt]
        · simp (disch := omega) only [mj_u_pt]; exact mN
        · simp (disch := omega) only [mj_u_pt, mj_u_eq]
        · refine ⟨⟨?_, ?_, ?_, ?_, ?_, ?_, ?_⟩, ?_, ?_, ?_, ?_, ?_, ?_⟩
          · simp (disch := omega) only [mj_u_pt]; exact a0
          · simp (disch := omega) only [mj_u_pt, mj_u_eq]
          · simp (disch := omega) only [mj_u_pt]; exact a2
          · simp (disch := omega) only [mj_u_pt]; exact a3
          · simp (disch := omega) only [mj_u_pt]; exact a4
          · simp (disch := omega) only [mj_u_pt]; exact a5
          · simp (disch := omega) only [mj_u_pt]; exact a6
          · simp (disch := omega) only [mj_u_pt]; exact hb
          · intro d hd; simp (disch := omega) only [mj_u_pt]; exact x3 d hd
          · intro d hd
            unfold iv_cnt
            have e : ∀ (m : mj_HI) (z : Int32), iv_cnt (fun k => decide (mj_u m 206 (45 + l) z 206 (45 + k) = nI (d + 1))) l = iv_cnt (fun k => decide (m 206 (45 + k) = nI (d + 1))) l := fun m z => iv_cnt_congr l (fun i hi => by rw [mj_u_pt (by omega)])
            simp (disch := omega) only [mj_u_pt, e, mj_u_eq]
            rw [if_neg (by rw [decide_eq_true_iff]; intro h; have := (mj_ze (k := d + 1) (by omega)).mp h; omega)]
            exact x4 d hd
          · intro k hk
            by_cases hkl : k = l
            · subst hkl; simp (disch := omega) only [mj_u_pt, mj_u_eq, and_self]
            · simp (disch := omega) only [mj_u_pt]; exact x5 k hk
          · intro k hk
            by_cases hkl : k = l
            · subst hkl; simp (disch := omega) only [mj_u_pt, mj_u_eq]; exact ⟨rfl, 0, by omega, rfl⟩
            · simp (disch := omega) only [mj_u_pt]; exact x6 k (by omega)
          · intro d hd; simp (disch := omega) only [mj_u_pt]; exact x7 d hd
        · intro k hk
          by_cases hkl : k = l
          · subst hkl; simp (disch := omega) only [mj_u_pt, mj_u_eq]; exact ⟨P, hP2, rfl⟩
          · simp (disch := omega) only [mj_u_pt]; exact iv_JWo q k (by omega)
        · exact iv_B_congr (iv_JB q) (fun a k h1 h2 => by simp (disch := omega) only [mj_u_pt]) (fun k => by simp (disch := omega) only [mj_u_pt])
        · exact iv_P2_0 q.2.1 (by simp (disch := omega) only [mj_u_pt, mj_u_eq]) (by simp (disch := omega) only [mj_u_pt, mj_u_eq]) (by simp (disch := omega) only [mj_u_pt])
  · refine ⟨-1, w, c, hi, hl, mj_u hi 205 0 0, ?_, ?_, iv_told q, hw⟩
    · by_cases v1 : 0 ≤ a ∧ a ≤ nI 5
      · by_cases v2 : 0 ≤ b ∧ b ≤ nI 999
        · have v4 : ¬ l < 12 := fun z => hv ⟨v1, v2, z⟩
          simp (disch := omega) only [q109_0, q109_5, q109_15, q109_33, q109_35, q109_42, q109_54, e109, s_within, eq_self, mj_bi_some, mj_bv_some, mj_bj_some, mj_br_some, mj_r0, mj_r1, mj_q0, mj_q1, mj_b01, mj_q2, if_true, if_false, mj_it, mj_if, true_and, and_true, false_and, and_false, not_true_eq_false, not_false_eq_true, true_or, or_true, false_or, or_false, mj_nIle, mj_nIlt, mj_nIeq, mj_nI0, mj_nIc, mj_nIadd, mj_nIs, mj_ez, mj_ze, mj_eo, mj_ltz, mj_lez, mj_zlt, mj_olt, mj_lto, mj_leo, mj_ole, mj_nIn, mj_nnI, nl_2, nl_3, nl_4, nl_5, nl_6, nl_7, nl_8, nl_9, nl_10, nl_11, nl_12, nl_13, nl_14, nl_15, nl_16, nl_17, nl_18, nl_19, nl_20, nl_21, nl_22, nl_23, nl_24, nl_25, nl_26, nl_27, nl_28, nl_29, nl_30, nl_31, nl_32, nl_33, nl_34, nl_35, nl_36, nl_37, nl_38, nl_39, nl_40, nl_41, nl_42, nl_43, nl_44, nl_45, nl_46, nl_47, nl_48, nl_49, nl_50, nl_51, nl_52, nl_53, nl_54, nl_55, nl_56, nl_57, nl_58, nl_59, nl_60, nl_61, nl_62, nl_63, nl_64, nl_65, nl_66, nl_67, nl_68, nl_69, nl_92, nl_97, nl_99, nl_100, nl_122, nl_127, nl_128, nl_131, nl_132, nl_150, nl_200, nl_255, nl_256, nl_300, nl_342, nl_380, nl_381, nl_400, nl_401, nl_420, nl_500, nl_600, nl_800, nl_999, nl_1000, nl_1023, nl_1024, nl_1200, nl_2048, nl_2100, nl_4096, nl_9999, nl_10000, nl_10240, nl_999999, nl_1000000, if_pos, if_neg, v1, v2, a1]
        · simp (disch := omega) only [q109_0, q109_5, q109_15, q109_33, q109_35, q109_42, q109_54, e109, s_within, eq_self, mj_bi_some, mj_bv_some, mj_bj_some, mj_br_some, mj_r0, mj_r1, mj_q0, mj_q1, mj_b01, mj_q2, if_true, if_false, mj_it, mj_if, true_and, and_true, false_and, and_false, not_true_eq_false, not_false_eq_true, true_or, or_true, false_or, or_false, mj_nIle, mj_nIlt, mj_nIeq, mj_nI0, mj_nIc, mj_nIadd, mj_nIs, mj_ez, mj_ze, mj_eo, mj_ltz, mj_lez, mj_zlt, mj_olt, mj_lto, mj_leo, mj_ole, mj_nIn, mj_nnI, nl_2, nl_3, nl_4, nl_5, nl_6, nl_7, nl_8, nl_9, nl_10, nl_11, nl_12, nl_13, nl_14, nl_15, nl_16, nl_17, nl_18, nl_19, nl_20, nl_21, nl_22, nl_23, nl_24, nl_25, nl_26, nl_27, nl_28, nl_29, nl_30, nl_31, nl_32, nl_33, nl_34, nl_35, nl_36, nl_37, nl_38, nl_39, nl_40, nl_41, nl_42, nl_43, nl_44, nl_45, nl_46, nl_47, nl_48, nl_49, nl_50, nl_51, nl_52, nl_53, nl_54, nl_55, nl_56, nl_57, nl_58, nl_59, nl_60, nl_61, nl_62, nl_63, nl_64, nl_65, nl_66, nl_67, nl_68, nl_69, nl_92, nl_97, nl_99, nl_100, nl_122, nl_127, nl_128, nl_131, nl_132, nl_150, nl_200, nl_255, nl_256, nl_300, nl_342, nl_380, nl_381, nl_400, nl_401, nl_420, nl_500, nl_600, nl_800, nl_999, nl_1000, nl_1023, nl_1024, nl_1200, nl_2048, nl_2100, nl_4096, nl_9999, nl_10000, nl_10240, nl_999999, nl_1000000, if_pos, if_neg, v1, v2, a1]
      · simp (disch := omega) only [q109_0, q109_5, q109_15, q109_33, q109_35, q109_42, q109_54, e109, s_within, eq_self, mj_bi_some, mj_bv_some, mj_bj_some, mj_br_some, mj_r0, mj_r1, mj_q0, mj_q1, mj_b01, mj_q2, if_true, if_false, mj_it, mj_if, true_and, and_true, false_and, and_false, not_true_eq_false, not_false_eq_true, true_or, or_true, false_or, or_false, mj_nIle, mj_nIlt, mj_nIeq, mj_nI0, mj_nIc, mj_nIadd, mj_nIs, mj_ez, mj_ze, mj_eo, mj_ltz, mj_lez, mj_zlt, mj_olt, mj_lto, mj_leo, mj_ole, mj_nIn, mj_nnI, nl_2, nl_3, nl_4, nl_5, nl_6, nl_7, nl_8, nl_9, nl_10, nl_11, nl_12, nl_13, nl_14, nl_15, nl_16, nl_17, nl_18, nl_19, nl_20, nl_21, nl_22, nl_23, nl_24, nl_25, nl_26, nl_27, nl_28, nl_29, nl_30, nl_31, nl_32, nl_33, nl_34, nl_35, nl_36, nl_37, nl_38, nl_39, nl_40, nl_41, nl_42, nl_43, nl_44, nl_45, nl_46, nl_47, nl_48, nl_49, nl_50, nl_51, nl_52, nl_53, nl_54, nl_55, nl_56, nl_57, nl_58, nl_59, nl_60, nl_61, nl_62, nl_63, nl_64, nl_65, nl_66, nl_67, nl_68, nl_69, nl_92, nl_97, nl_99, nl_100, nl_122, nl_127, nl_128, nl_131, nl_132, nl_150, nl_200, nl_255, nl_256, nl_300, nl_342, nl_380, nl_381, nl_400, nl_401, nl_420, nl_500, nl_600, nl_800, nl_999, nl_1000, nl_1023, nl_1024, nl_1200, nl_2048, nl_2100, nl_4096, nl_9999, nl_10000, nl_10240, nl_999999, nl_1000000, if_pos, if_neg, v1, a1]
    · by_cases v1 : 0 ≤ a ∧ a ≤ nI 5
      · by_cases v2 : 0 ≤ b ∧ b ≤ nI 999
        · have v4 : ¬ l < 12 := fun z => hv ⟨v1, v2, z⟩
          simp (disch := omega) only [q171_0, q171_12, q171_24, q171_36, q171_38, e171, s_isIn, eq_self, mj_bi_some, mj_bv_some, mj_bj_some, mj_br_some, mj_r0, mj_r1, mj_q0, mj_q1, mj_b01, mj_q2, if_true, if_false, mj_it, mj_if, true_and, and_true, false_and, and_false, not_true_eq_false, not_false_eq_true, true_or, or_true, false_or, or_false, mj_nIle, mj_nIlt, mj_nIeq, mj_nI0, mj_nIc, mj_nIadd, mj_nIs, mj_ez, mj_ze, mj_eo, mj_ltz, mj_lez, mj_zlt, mj_olt, mj_lto, mj_leo, mj_ole, mj_nIn, mj_nnI, nl_2, nl_3, nl_4, nl_5, nl_6, nl_7, nl_8, nl_9, nl_10, nl_11, nl_12, nl_13, nl_14, nl_15, nl_16, nl_17, nl_18, nl_19, nl_20, nl_21, nl_22, nl_23, nl_24, nl_25, nl_26, nl_27, nl_28, nl_29, nl_30, nl_31, nl_32, nl_33, nl_34, nl_35, nl_36, nl_37, nl_38, nl_39, nl_40, nl_41, nl_42, nl_43, nl_44, nl_45, nl_46, nl_47, nl_48, nl_49, nl_50, nl_51, nl_52, nl_53, nl_54, nl_55, nl_56, nl_57, nl_58, nl_59, nl_60, nl_61, nl_62, nl_63, nl_64, nl_65, nl_66, nl_67, nl_68, nl_69, nl_92, nl_97, nl_99, nl_100, nl_122, nl_127, nl_128, nl_131, nl_132, nl_150, nl_200, nl_255, nl_256, nl_300, nl_342, nl_380, nl_381, nl_400, nl_401, nl_420, nl_500, nl_600, nl_800, nl_999, nl_1000, nl_1023, nl_1024, nl_1200, nl_2048, nl_2100, nl_4096, nl_9999, nl_10000, nl_10240, nl_999999, nl_1000000, if_pos, if_neg, v1, v2, mL, mj_u_pt]
        · simp (disch := omega) only [q171_0, q171_12, q171_24, q171_36, q171_38, e171, s_isIn, eq_self, mj_bi_some, mj_bv_some, mj_bj_some, mj_br_some, mj_r0, mj_r1, mj_q0, mj_q1, mj_b01, mj_q2, if_true, if_false, mj_it, mj_if, true_and, and_true, false_and, and_false, not_true_eq_false, not_false_eq_true, true_or, or_true, false_or, or_false, mj_nIle, mj_nIlt, mj_nIeq, mj_nI0, mj_nIc, mj_nIadd, mj_nIs, mj_ez, mj_ze, mj_eo, mj_ltz, mj_lez, mj_zlt, mj_olt, mj_lto, mj_leo, mj_ole, mj_nIn, mj_nnI, nl_2, nl_3, nl_4, nl_5, nl_6, nl_7, nl_8, nl_9, nl_10, nl_11, nl_12, nl_13, nl_14, nl_15, nl_16, nl_17, nl_18, nl_19, nl_20, nl_21, nl_22, nl_23, nl_24, nl_25, nl_26, nl_27, nl_28, nl_29, nl_30, nl_31, nl_32, nl_33, nl_34, nl_35, nl_36, nl_37, nl_38, nl_39, nl_40, nl_41, nl_42, nl_43, nl_44, nl_45, nl_46, nl_47, nl_48, nl_49, nl_50, nl_51, nl_52, nl_53, nl_54, nl_55, nl_56, nl_57, nl_58, nl_59, nl_60, nl_61, nl_62, nl_63, nl_64, nl_65, nl_66, nl_67, nl_68, nl_69, nl_92, nl_97, nl_99, nl_100, nl_122, nl_127, nl_128, nl_131, nl_132, nl_150, nl_200, nl_255, nl_256, nl_300, nl_342, nl_380, nl_381, nl_400, nl_401, nl_420, nl_500, nl_600, nl_800, nl_999, nl_1000, nl_1023, nl_1024, nl_1200, nl_2048, nl_2100, nl_4096, nl_9999, nl_10000, nl_10240, nl_999999, nl_1000000, if_pos, if_neg, v1, v2, mL, mj_u_pt]
      · simp (disch := omega) only [q171_0, q171_12, q171_24, q171_36, q171_38, e171, s_isIn, eq_self, mj_bi_some, mj_bv_some, mj_bj_some, mj_br_some, mj_r0, mj_r1, mj_q0, mj_q1, mj_b01, mj_q2, if_true, if_false, mj_it, mj_if, true_and, and_true, false_and, and_false, not_true_eq_false, not_false_eq_true, true_or, or_true, false_or, or_false, mj_nIle, mj_nIlt, mj_nIeq, mj_nI0, mj_nIc, mj_nIadd, mj_nIs, mj_ez, mj_ze, mj_eo, mj_ltz, mj_lez, mj_zlt, mj_olt, mj_lto, mj_leo, mj_ole, mj_nIn, mj_nnI, nl_2, nl_3, nl_4, nl_5, nl_6, nl_7, nl_8, nl_9, nl_10, nl_11, nl_12, nl_13, nl_14, nl_15, nl_16, nl_17, nl_18, nl_19, nl_20, nl_21, nl_22, nl_23, nl_24, nl_25, nl_26, nl_27, nl_28, nl_29, nl_30, nl_31, nl_32, nl_33, nl_34, nl_35, nl_36, nl_37, nl_38, nl_39, nl_40, nl_41, nl_42, nl_43, nl_44, nl_45, nl_46, nl_47, nl_48, nl_49, nl_50, nl_51, nl_52, nl_53, nl_54, nl_55, nl_56, nl_57, nl_58, nl_59, nl_60, nl_61, nl_62, nl_63, nl_64, nl_65, nl_66, nl_67, nl_68, nl_69, nl_92, nl_97, nl_99, nl_100, nl_122, nl_127, nl_128, nl_131, nl_132, nl_150, nl_200, nl_255, nl_256, nl_300, nl_342, nl_380, nl_381, nl_400, nl_401, nl_420, nl_500, nl_600, nl_800, nl_999, nl_1000, nl_1023, nl_1024, nl_1200, nl_2048, nl_2100, nl_4096, nl_9999, nl_10000, nl_10240, nl_999999, nl_1000000, if_pos, if_neg, v1, mL, mj_u_pt]
theorem iv_set0 {n l : Nat} {hi : mj_HI} (q : iv_J n l hi hi) {k V : Nat} (hk : k < n) (hV : V ≤ 99) : iv_I (mj_u (mj_u (mj_u (mj_u (mj_u hi 3 k (nI V)) 91 0 0) 205 0 0) 206 (5 + k) (nI V)) 205 3 0) (mj_u (mj_u (mj_u (mj_u (mj_u hi 3 k (nI V)) 91 0 0) 205 0 0) 206 (5 + k) (nI V)) 205 3 0) := by
  obtain ⟨n10, l12, mN, mL⟩ := iv_Jn q
  obtain ⟨⟨a0, a1, a2, a3, a4, a5, a6⟩, hb, x3, x4, x5, x6, x7⟩ := iv_JX q
  refine iv_two (n := n) (l := l) (h := mj_u (mj_u hi 3 k (nI V)) 91 0 0) (m := mj_u (mj_u (mj_u hi 205 0 0) 206 (5 + k) (nI V)) 205 3 0) (fun a k h => ?_) (fun a k h1 h2 => ?_) ?_
  · simp (disch := omega) only [mj_u_pt]
  · simp only [mj_u]
    repeat' split
    all_goals first | rfl | omega
  · refine iv_J_room q (Nat.le_refl _) (Nat.le_refl _) n10 l12 (fun a k h => ?_) (fun a k h => ?_) (fun k h => ?_) ?_ ?_ ?_ ?_ ?_ ?_
    · simp (disch := omega) only [mj_u_pt]
    · simp (disch := omega) only [mj_u_pt]
    · simp (disch := omega) only [mj_u_pt]
    · simp (disch := omega) only [mj_u_pt]; exact mN
    · simp (disch := omega) only [mj_u_pt]; exact mL
    · refine ⟨⟨?_, ?_, ?_, ?_, ?_, ?_, ?_⟩, ?_, ?_, ?_, ?_, ?_, ?_⟩
      · simp (disch := omega) only [mj_u_pt]; exact a0
      · simp (disch := omega) only [mj_u_pt]; exact a1
      · simp (disch := omega) only [mj_u_pt]; exact a2
      · simp (disch := omega) only [mj_u_pt]; exact a3
      · simp (disch := omega) only [mj_u_pt]; exact a4
      · simp (disch := omega) only [mj_u_pt]; exact a5
      · simp (disch := omega) only [mj_u_pt]; exact a6
      · simp (disch := omega) only [mj_u_pt]; exact hb
      · intro d hd
        obtain ⟨y1, y2, y3, y4, y5, y6⟩ := x3 d hd
        by_cases hdk : d = k
        · subst hdk
          refine ⟨?_, ?_, ?_, ?_, ?_, ?_⟩ <;> simp (disch := omega) only [mj_u_pt, mj_u_eq] <;> assumption
        · simp (disch := omega) only [mj_u_pt]; exact ⟨y1, y2, y3, y4, y5, y6⟩
      · intro d hd; simp (disch := omega) only [mj_u_pt]; exact x4 d hd
      · intro d hd
        obtain ⟨y1, y2⟩ := x5 d hd
        by_cases hdk : d = k
        · subst hdk
          refine ⟨?_, ?_⟩ <;> simp (disch := omega) only [mj_u_pt, mj_u_eq] <;> assumption
        · simp (disch := omega) only [mj_u_pt]; exact ⟨y1, y2⟩
      · intro k hk; simp (disch := omega) only [mj_u_pt]; exact x6 k hk
      · intro d hd
        by_cases hdk : d = k
        · subst hdk; simp (disch := omega) only [mj_u_pt]; exact x7 d hd
        · simp (disch := omega) only [mj_u_pt]; exact x7 d hd
    · intro d hd
      by_cases hdk : d = k
      · subst hdk; simp (disch := omega) only [mj_u_pt]; exact iv_JWo q d hd
      · simp (disch := omega) only [mj_u_pt]; exact iv_JWo q d hd
    · exact iv_B_congr (iv_JB q) (fun a k h1 h2 => by simp (disch := omega) only [mj_u_pt]) (fun k => by simp (disch := omega) only [mj_u_pt])
    · exact iv_P2_0 q.2.1 (by simp (disch := omega) only [mj_u_pt, mj_u_eq]) (by simp (disch := omega) only [mj_u_pt, mj_u_eq]) (by simp (disch := omega) only [mj_u_pt])
theorem iv_set1 {n l : Nat} {hi : mj_HI} (q : iv_J n l hi hi) {k V : Nat} (hk : k < n) (hV : V ≤ 9) : iv_I (mj_u (mj_u (mj_u (mj_u (mj_u hi 4 k (nI V)) 91 0 0) 205 0 0) 209 k (nI V)) 205 3 0) (mj_u (mj_u (mj_u (mj_u (mj_u hi 4 k (nI V)) 91 0 0) 205 0 0) 209 k (nI V)) 205 3 0) := by
  obtain ⟨n10, l12, mN, mL⟩ := iv_Jn q
  obtain ⟨⟨a0, a1, a2, a3, a4, a5, a6⟩, hb, x3, x4, x5, x6, x7⟩ := iv_JX q
  refine iv_two (n := n) (l := l) (h := mj_u (mj_u hi 4 k (nI V)) 91 0 0) (m := mj_u (mj_u (mj_u hi 205 0 0) 209 k (nI V)) 205 3 0) (fun a k h => ?_) (fun a k h1 h2 => ?_) ?_
  · simp (disch := omega) only [mj_u_pt]
  · simp only [mj_u]
    repeat' split
    all_goals first | rfl | omega
  · refine iv_J_room q (Nat.le_refl _) (Nat.le_refl _) n10 l12 (fun a k h => ?_) (fun a k h => ?_) (fun k h => ?_) ?_ ?_ ?_ ?_ ?_ ?_
    · simp (disch := omega) only [mj_u_pt]
    · simp (disch := omega) only [mj_u_pt]
    · simp (disch := omega) only [mj_u_pt]
    · simp (disch := omega) only [mj_u_pt]; exact mN
    · simp (disch := omega) only [mj_u_pt]; exact mL
    · refine ⟨⟨?_, ?_, ?_, ?_, ?_, ?_, ?_⟩, ?_, ?_, ?_, ?_, ?_, ?_⟩
      · simp (disch := omega) only [mj_u_pt]; exact a0
      · simp (disch := omega) only [mj_u_pt]; exact a1
      · simp (disch := omega) only [mj_u_pt]; exact a2
      · simp (disch := omega) only [mj_u_pt]; exact a3
      · simp (disch := omega) only [mj_u_pt]; exact a4
      · simp (disch := omega) only [mj_u_pt]; exact a5
      · simp (disch := omega) only [mj_u_pt]; exact a6
      · simp (disch := omega) only [mj_u_pt]; exact hb
      · intro d hd
        obtain ⟨y1, y2, y3, y4, y5, y6⟩ := x3 d hd
        by_cases hdk : d = k
        · subst hdk
          refine ⟨?_, ?_, ?_, ?_, ?_, ?_⟩ <;> simp (disch := omega) only [mj_u_pt, mj_u_eq] <;> assumption
        · simp (disch := omega) only [mj_u_pt]; exact ⟨y1, y2, y3, y4, y5, y6⟩
      · intro d hd; simp (disch := omega) only [mj_u_pt]; exact x4 d hd
      · intro d hd
        obtain ⟨y1, y2⟩ := x5 d hd
        by_cases hdk : d = k
        · subst hdk
          refine ⟨?_, ?_⟩ <;> simp (disch := omega) only [mj_u_pt, mj_u_eq] <;> assumption
        · simp (disch := omega) only [mj_u_pt]; exact ⟨y1, y2⟩
      · intro k hk; simp (disch := omega) only [mj_u_pt]; exact x6 k hk
      · intro d hd
        by_cases hdk : d = k
        · subst hdk; simp (disch := omega) only [mj_u_pt]; exact x7 d hd
        · simp (disch := omega) only [mj_u_pt]; exact x7 d hd
    · intro d hd
      by_cases hdk : d = k
      · subst hdk; simp (disch := omega) only [mj_u_pt]; exact iv_JWo q d hd
      · simp (disch := omega) only [mj_u_pt]; exact iv_JWo q d hd
    · exact iv_B_congr (iv_JB q) (fun a k h1 h2 => by simp (disch := omega) only [mj_u_pt]) (fun k => by simp (disch := omega) only [mj_u_pt])
    · exact iv_P2_0 q.2.1 (by simp (disch := omega) only [mj_u_pt, mj_u_eq]) (by simp (disch := omega) only [mj_u_pt, mj_u_eq]) (by simp (disch := omega) only [mj_u_pt])
theorem iv_set2 {n l : Nat} {hi : mj_HI} (q : iv_J n l hi hi) {k V : Nat} (hk : k < n) (hV : V ≤ 9999) : iv_I (mj_u (mj_u (mj_u (mj_u (mj_u hi 5 k (nI V)) 91 0 0) 205 0 0) 206 (15 + k) (nI V)) 205 3 0) (mj_u (mj_u (mj_u (mj_u (mj_u hi 5 k (nI V)) 91 0 0) 205 0 0) 206 (15 + k) (nI V)) 205 3 0) := by
  obtain ⟨n10, l12, mN, mL⟩ := iv_Jn q
  obtain ⟨⟨a0, a1, a2, a3, a4, a5, a6⟩, hb, x3, x4, x5, x6, x7⟩ := iv_JX q
  refine iv_two (n := n) (l := l) (h := mj_u (mj_u hi 5 k (nI V)) 91 0 0) (m := mj_u (mj_u (mj_u hi 205 0 0) 206 (15 + k) (nI V)) 205 3 0) (fun a k h => ?_) (fun a k h1 h2 => ?_) ?_
  · simp (disch := omega) only [mj_u_pt]
  · simp only [mj_u]
    repeat' split
    all_goals first | rfl | omega
  · refine iv_J_room q (Nat.le_refl _) (Nat.le_refl _) n10 l12 (fun a k h => ?_) (fun a k h => ?_) (fun k h => ?_) ?_ ?_ ?_ ?_ ?_ ?_
    · simp (disch := omega) only [mj_u_pt]
    · simp (disch := omega) only [mj_u_pt]
    · simp (disch := omega) only [mj_u_pt]
    · simp (disch := omega) only [mj_u_pt]; exact mN
    · simp (disch := omega) only [mj_u_pt]; exact mL
    · refine ⟨⟨?_, ?_, ?_, ?_, ?_, ?_, ?_⟩, ?_, ?_, ?_, ?_, ?_, ?_⟩
      · simp (disch := omega) only [mj_u_pt]; exact a0
      · simp (disch := omega) only [mj_u_pt]; exact a1
      · simp (disch := omega) only [mj_u_pt]; exact a2
      · simp (disch := omega) only [mj_u_pt]; exact a3
      · simp (disch := omega) only [mj_u_pt]; exact a4
      · simp (disch := omega) only [mj_u_pt]; exact a5
      · simp (disch := omega) only [mj_u_pt]; exact a6
      · simp (disch := omega) only [mj_u_pt]; exact hb
      · intro d hd
        obtain ⟨y1, y2, y3, y4, y5, y6⟩ := x3 d hd
        by_cases hdk : d = k
        · subst hdk
          refine ⟨?_, ?_, ?_, ?_, ?_, ?_⟩ <;> simp (disch := omega) only [mj_u_pt, mj_u_eq] <;> assumption
        · simp (disch := omega) only [mj_u_pt]; exact ⟨y1, y2, y3, y4, y5, y6⟩
      · intro d hd; simp (disch := omega) only [mj_u_pt]; exact x4 d hd
      · intro d hd
        obtain ⟨y1, y2⟩ := x5 d hd
        by_cases hdk : d = k
        · subst hdk
          refine ⟨?_, ?_⟩ <;> simp (disch := omega) only [mj_u_pt, mj_u_eq] <;> assumption
        · simp (disch := omega) only [mj_u_pt]; exact ⟨y1, y2⟩
      · intro k hk; simp (disch := omega) only [mj_u_pt]; exact x6 k hk
      · intro d hd
        by_cases hdk : d = k
        · subst hdk; refine ⟨V, hV, ?_⟩; simp (disch := omega) only [mj_u_pt, mj_u_eq]
        · simp (disch := omega) only [mj_u_pt]; exact x7 d hd
    · intro d hd
      by_cases hdk : d = k
      · subst hdk; simp (disch := omega) only [mj_u_pt]; exact iv_JWo q d hd
      · simp (disch := omega) only [mj_u_pt]; exact iv_JWo q d hd
    · exact iv_B_congr (iv_JB q) (fun a k h1 h2 => by simp (disch := omega) only [mj_u_pt]) (fun k => by simp (disch := omega) only [mj_u_pt])
    · exact iv_P2_0 q.2.1 (by simp (disch := omega) only [mj_u_pt, mj_u_eq]) (by simp (disch := omega) only [mj_u_pt, mj_u_eq]) (by simp (disch := omega) only [mj_u_pt])
theorem iv_set3 {n l : Nat} {hi : mj_HI} (q : iv_J n l hi hi) {k V : Nat} (hk : k < l) (hV : V ≤ 999) : iv_I (mj_u (mj_u (mj_u (mj_u (mj_u hi 11 k (nI V)) 91 0 0) 205 0 0) 212 k (nI V)) 205 3 0) (mj_u (mj_u (mj_u (mj_u (mj_u hi 11 k (nI V)) 91 0 0) 205 0 0) 212 k (nI V)) 205 3 0) := by
  obtain ⟨n10, l12, mN, mL⟩ := iv_Jn q
  obtain ⟨⟨a0, a1, a2, a3, a4, a5, a6⟩, hb, x3, x4, x5, x6, x7⟩ := iv_JX q
  refine iv_two (n := n) (l := l) (h := mj_u (mj_u hi 11 k (nI V)) 91 0 0) (m := mj_u (mj_u (mj_u hi 205 0 0) 212 k (nI V)) 205 3 0) (fun a k h => ?_) (fun a k h1 h2 => ?_) ?_
  · simp (disch := omega) only [mj_u_pt]
  · simp only [mj_u]
    repeat' split
    all_goals first | rfl | omega
  · refine iv_J_room q (Nat.le_refl _) (Nat.le_refl _) n10 l12 (fun a k h => ?_) (fun a k h => ?_) (fun k h => ?_) ?_ ?_ ?_ ?_ ?_ ?_
    · simp (disch := omega) only [mj_u_pt]
    · simp (disch := omega) only [mj_u_pt]
    · simp (disch := omega) only [mj_u_pt]
    · simp (disch := omega) only [mj_u_pt]; exact mN
    · simp (disch := omega) only [mj_u_pt]; exact mL
    · refine ⟨⟨?_, ?_, ?_, ?_, ?_, ?_, ?_⟩, ?_, ?_, ?_, ?_, ?_, ?_⟩
      · simp (disch := omega) only [mj_u_pt]; exact a0
      · simp (disch := omega) only [mj_u_pt]; exact a1
      · simp (disch := omega) only [mj_u_pt]; exact a2
      · simp (disch := omega) only [mj_u_pt]; exact a3
      · simp (disch := omega) only [mj_u_pt]; exact a4
      · simp (disch := omega) only [mj_u_pt]; exact a5
      · simp (disch := omega) only [mj_u_pt]; exact a6
      · simp (disch := omega) only [mj_u_pt]; exact hb
      · intro d hd
        obtain ⟨y1, y2, y3, y4, y5, y6⟩ := x3 d hd
        by_cases hdk : d = k
        · subst hdk
          refine ⟨?_, ?_, ?_, ?_, ?_, ?_⟩ <;> simp (disch := omega) only [mj_u_pt, mj_u_eq] <;> assumption
        · simp (disch := omega) only [mj_u_pt]; exact ⟨y1, y2, y3, y4, y5, y6⟩
      · intro d hd; simp (disch := omega) only [mj_u_pt]; exact x4 d hd
      · intro d hd
        obtain ⟨y1, y2⟩ := x5 d hd
        by_cases hdk : d = k
        · subst hdk
          refine ⟨?_, ?_⟩ <;> simp (disch := omega) only [mj_u_pt, mj_u_eq] <;> assumption
        · simp (disch := omega) only [mj_u_pt]; exact ⟨y1, y2⟩
      · intro k hk; simp (disch := omega) only [mj_u_pt]; exact x6 k hk
      · intro d hd
        by_cases hdk : d = k
        · subst hdk; simp (disch := omega) only [mj_u_pt]; exact x7 d hd
        · simp (disch := omega) only [mj_u_pt]; exact x7 d hd
    · intro d hd
      by_cases hdk : d = k
      · subst hdk; refine ⟨V, hV, ?_⟩; simp (disch := omega) only [mj_u_pt, mj_u_eq]
      · simp (disch := omega) only [mj_u_pt]; exact iv_JWo q d hd
    · exact iv_B_congr (iv_JB q) (fun a k h1 h2 => by simp (disch := omega) only [mj_u_pt]) (fun k => by simp (disch := omega) only [mj_u_pt])
    · exact iv_P2_0 q.2.1 (by simp (disch := omega) only [mj_u_pt, mj_u_eq]) (by simp (disch := omega) only [mj_u_pt, mj_u_eq]) (by simp (disch := omega) only [mj_u_pt])
theorem iv_set4 {n l : Nat} {hi : mj_HI} (q : iv_J n l hi hi) {k V : Nat} (hk : k < l) (hV : V ≤ 5) : iv_I (mj_u (mj_u (mj_u (mj_u (mj_u hi 10 k (nI V)) 91 0 0) 205 0 0) 211 k (nI V)) 205 3 0) (mj_u (mj_u (mj_u (mj_u (mj_u hi 10 k (nI V)) 91 0 0) 205 0 0) 211 k (nI V)) 205 3 0) := by
  obtain ⟨n10, l12, mN, mL⟩ := iv_Jn q
  obtain ⟨⟨a0, a1, a2, a3, a4, a5, a6⟩, hb, x3, x4, x5, x6, x7⟩ := iv_JX q
  refine iv_two (n := n) (l := l) (h := mj_u (mj_u hi 10 k (nI V)) 91 0 0) (m := mj_u (mj_u (mj_u hi 205 0 0) 211 k (nI V)) 205 3 0) (fun a k h => ?_) (fun a k h1 h2 => ?_) ?_
  · simp (disch := omega) only [mj_u_pt]
  · simp only [mj_u]
    repeat' split
    all_goals first | rfl | omega
  · refine iv_J_room q (Nat.le_refl _) (Nat.le_refl _) n10 l12 (fun a k h => ?_) (fun a k h => ?_) (fun k h => ?_) ?_ ?_ ?_ ?_ ?_ ?_
    · simp (disch := omega) only [mj_u_pt]
    · simp (disch := omega) only [mj_u_pt]
    · simp (disch := omega) only [mj_u_pt]
    · simp (disch := omega) only [mj_u_pt]; exact mN
    · simp (disch := omega) only [mj_u_pt]; exact mL
    · refine ⟨⟨?_, ?_, ?_, ?_, ?_, ?_, ?_⟩, ?_, ?_, ?_, ?_, ?_, ?_⟩
      · simp (disch := omega) only [mj_u_pt]; exact a0
      · simp (disch := omega) only [mj_u_pt]; exact a1
      · simp (disch := omega) only [mj_u_pt]; exact a2
      · simp (disch := omega) only [mj_u_pt]; exact a3
      · simp (disch := omega) only [mj_u_pt]; exact a4
      · simp (disch := omega) only [mj_u_pt]; exact a5
      · simp (disch := omega) only [mj_u_pt]; exact a6
      · simp (disch := omega) only [mj_u_pt]; exact hb
      · intro d hd
        obtain ⟨y1, y2, y3, y4, y5, y6⟩ := x3 d hd
        by_cases hdk : d = k
        · subst hdk
          refine ⟨?_, ?_, ?_, ?_, ?_, ?_⟩ <;> simp (disch := omega) only [mj_u_pt, mj_u_eq] <;> assumption
        · simp (disch := omega) only [mj_u_pt]; exact ⟨y1, y2, y3, y4, y5, y6⟩
      · intro d hd; simp (disch := omega) only [mj_u_pt]; exact x4 d hd
      · intro d hd
        obtain ⟨y1, y2⟩ := x5 d hd
        by_cases hdk : d = k
        · subst hdk
          refine ⟨?_, ?_⟩ <;> simp (disch := omega) only [mj_u_pt, mj_u_eq] <;> assumption
        · simp (disch := omega) only [mj_u_pt]; exact ⟨y1, y2⟩
      · intro k hk; simp (disch := omega) only [mj_u_pt]; exact x6 k hk
      · intro d hd
        by_cases hdk : d = k
        · subst hdk; simp (disch := omega) only [mj_u_pt]; exact x7 d hd
        · simp (disch := omega) only [mj_u_pt]; exact x7 d hd
    · intro d hd
      by_cases hdk : d = k
      · subst hdk; simp (disch := omega) only [mj_u_pt]; exact iv_JWo q d hd
      · simp (disch := omega) only [mj_u_pt]; exact iv_JWo q d hd
    · exact iv_B_congr (iv_JB q) (fun a k h1 h2 => by simp (disch := omega) only [mj_u_pt]) (fun k => by simp (disch := omega) only [mj_u_pt])
    · exact iv_P2_0 q.2.1 (by simp (disch := omega) only [mj_u_pt, mj_u_eq]) (by simp (disch := omega) only [mj_u_pt, mj_u_eq]) (by simp (disch := omega) only [mj_u_pt])
theorem lw_E1s (L : Nat) (xs : Nat → Int32) : (mj_Ee L xs 1).1 = 5 := rfl
theorem lw_E1v (L : Nat) (xs : Nat → Int32) : (mj_Ee L xs 1).2 0 = 99 ∧ (mj_Ee L xs 1).2 1 = 9 ∧ (mj_Ee L xs 1).2 2 = 9999 ∧ (mj_Ee L xs 1).2 3 = 999 ∧ (mj_Ee L xs 1).2 4 = 5 := ⟨rfl, rfl, rfl, rfl, rfl⟩
theorem lw_5 : Int32.ofNat 5 - 1 = 4 := rfl
theorem cs_set (a b p : Int32) : mj_Cs 110 173 [.int a, .int b, .int p] := by
  intro E d w c hi hl hE hw hI
  obtain ⟨L, xs, hL, rfl⟩ := hE
  obtain ⟨n, l, q⟩ := iv_I_un.mp hI
  obtain ⟨n10, l12, mN, mL⟩ := iv_Jn q
  obtain ⟨⟨a0, a1, a2, a3, a4, a5, a6⟩, hb, x3, x4, x5, x6, x7⟩ := iv_JX q
  obtain ⟨E0, E1, E2, E3, E4⟩ := lw_E1v L xs
  by_cases ha : 0 ≤ a ∧ a ≤ nI 4
  · obtain ⟨A, hA, rfl⟩ := mj_ofn ha.1
    have hA2 : A ≤ 4 := by have := ha.2; rw [mj_nIle hA (by omega)] at this; exact this
    have hA3 : A = 0 ∨ A = 1 ∨ A = 2 ∨ A = 3 ∨ A = 4 := by omega
    rcases hA3 with rfl | rfl | rfl | rfl | rfl
    · by_cases hv : (0 ≤ p ∧ p ≤ nI 99) ∧ (0 ≤ b ∧ b < nI n)
      · obtain ⟨hp, hbb⟩ := hv
        obtain ⟨V, hV, rfl⟩ := mj_ofn hp.1
        have hV2 : V ≤ 99 := by have := hp.2; rw [mj_nIle hV (by omega)] at this; exact this
        obtain ⟨k, hk, rfl⟩ := mj_ofn hbb.1
        have hk2 : k < n := by have := hbb.2; rw [mj_nIlt hk (by omega)] at this; exact this
        refine ⟨1, w, c, mj_u (mj_u hi 3 k (nI V)) 91 0 0, hl, mj_u (mj_u (mj_u (mj_u (mj_u hi 3 k (nI V)) 91 0 0) 205 0 0) 206 (5 + k) (nI V)) 205 3 0, ?_, ?_, iv_set0 q hk2 hV2, hw⟩
        · simp (disch := omega) only [q110_0, q110_19, q110_31, q110_34, q110_36, q110_47, q110_53, q110_59, q110_62, q110_64, q110_96, q110_107, q110_118, q110_129, q110_140, q110_148, q110_155, e110, s_within, s_forget, s_dlX n10 a0, s_ltX l12 a1, lw_E1s, lw_5, E0, E1, E2, E3, E4, eq_self, mj_bi_some, mj_bv_some, mj_bj_some, mj_br_some, mj_r0, mj_r1, mj_q0, mj_q1, mj_b01, mj_q2, if_true, if_false, mj_it, mj_if, true_and, and_true, false_and, and_false, not_true_eq_false, not_false_eq_true, true_or, or_true, false_or, or_false, mj_nIle, mj_nIlt, mj_nIeq, mj_nI0, mj_nIc, mj_nIadd, mj_nIs, mj_ez, mj_ze, mj_eo, mj_ltz, mj_lez, mj_zlt, mj_olt, mj_lto, mj_leo, mj_ole, mj_nIn, mj_nnI, nl_2, nl_3, nl_4, nl_5, nl_6, nl_7, nl_8, nl_9, nl_10, nl_11, nl_12, nl_13, nl_14, nl_15, nl_16, nl_17, nl_18, nl_19, nl_20, nl_21, nl_22, nl_23, nl_24, nl_25, nl_26, nl_27, nl_28, nl_29, nl_30, nl_31, nl_32, nl_33, nl_34, nl_35, nl_36, nl_37, nl_38, nl_39, nl_40, nl_41, nl_42, nl_43, nl_44, nl_45, nl_46, nl_47, nl_48, nl_49, nl_50, nl_51, nl_52, nl_53, nl_54, nl_55, nl_56, nl_57, nl_58, nl_59, nl_60, nl_61, nl_62, nl_63, nl_64, nl_65, nl_66, nl_67, nl_68, nl_69, nl_92, nl_97, nl_99, nl_100, nl_122, nl_127, nl_128, nl_131, nl_132, nl_150, nl_200, nl_255, nl_256, nl_300, nl_342, nl_380, nl_381, nl_400, nl_401, nl_420, nl_500, nl_600, nl_800, nl_999, nl_1000, nl_1023, nl_1024, nl_1200, nl_2048, nl_2100, nl_4096, nl_9999, nl_10000, nl_10240, nl_999999, nl_1000000, if_pos, if_neg, hp, hbb, mj_u_pt, show mj_sw (nI 0) 0 140 [96, 107, 118, 129] = 96 from rfl]
        · have mN2 : (mj_u (mj_u (mj_u hi 3 k (nI V)) 91 0 0) 205 0 0) 205 6 = nI n := by simp (disch := omega) only [mj_u_pt]; exact mN
          have mL2 : (mj_u (mj_u (mj_u hi 3 k (nI V)) 91 0 0) 205 0 0) 205 7 = nI l := by simp (disch := omega) only [mj_u_pt]; exact mL
          simp (disch := omega) only [q173_0, q173_12, q173_17, q173_30, q173_42, q173_57, q173_69, q173_81, e173, q172_0, q172_7, q172_15, q172_30, q172_40, q172_43, q172_46, q172_53, q172_54, q172_55, q172_62, q172_70, q172_87, q172_88, q172_91, q172_98, q172_99, e172, s_isIn, s_dlM mN2, s_ltM mL2, eq_self, mj_bi_some, mj_bv_some, mj_bj_some, mj_br_some, mj_r0, mj_r1, mj_q0, mj_q1, mj_b01, mj_q2, if_true, if_false, mj_it, mj_if, true_and, and_true, false_and, and_false, not_true_eq_false, not_false_eq_true, true_or, or_true, false_or, or_false, mj_nIle, mj_nIlt, mj_nIeq, mj_nI0, mj_nIc, mj_nIadd, mj_nIs, mj_ez, mj_ze, mj_eo, mj_ltz, mj_lez, mj_zlt, mj_olt, mj_lto, mj_leo, mj_ole, mj_nIn, mj_nnI, nl_2, nl_3, nl_4, nl_5, nl_6, nl_7, nl_8, nl_9, nl_10, nl_11, nl_12, nl_13, nl_14, nl_15, nl_16, nl_17, nl_18, nl_19, nl_20, nl_21, nl_22, nl_23, nl_24, nl_25, nl_26, nl_27, nl_28, nl_29, nl_30, nl_31, nl_32, nl_33, nl_34, nl_35, nl_36, nl_37, nl_38, nl_39, nl_40, nl_41, nl_42, nl_43, nl_44, nl_45, nl_46, nl_47, nl_48, nl_49, nl_50, nl_51, nl_52, nl_53, nl_54, nl_55, nl_56, nl_57, nl_58, nl_59, nl_60, nl_61, nl_62, nl_63, nl_64, nl_65, nl_66, nl_67, nl_68, nl_69, nl_92, nl_97, nl_99, nl_100, nl_122, nl_127, nl_128, nl_131, nl_132, nl_150, nl_200, nl_255, nl_256, nl_300, nl_342, nl_380, nl_381, nl_400, nl_401, nl_420, nl_500, nl_600, nl_800, nl_999, nl_1000, nl_1023, nl_1024, nl_1200, nl_2048, nl_2100, nl_4096, nl_9999, nl_10000, nl_10240, nl_999999, nl_1000000, if_pos, if_neg, hp, hbb]
      · refine ⟨0, w, c, hi, hl, mj_u hi 205 0 0, ?_, ?_, iv_told q, hw⟩
        · by_cases hp : 0 ≤ p ∧ p ≤ nI 99
          · have hbb : ¬ (0 ≤ b ∧ b < nI n) := fun z => hv ⟨hp, z⟩
            simp (disch := omega) only [q110_0, q110_19, q110_31, q110_34, q110_36, q110_47, q110_53, q110_59, q110_62, q110_64, q110_96, q110_107, q110_118, q110_129, q110_140, q110_148, q110_155, e110, s_within, s_dlX n10 a0, s_ltX l12 a1, lw_E1s, lw_5, E0, E1, E2, E3, E4, eq_self, mj_bi_some, mj_bv_some, mj_bj_some, mj_br_some, mj_r0, mj_r1, mj_q0, mj_q1, mj_b01, mj_q2, if_true, if_false, mj_it, mj_if, true_and, and_true, false_and, and_false, not_true_eq_false, not_false_eq_true, true_or, or_true, false_or, or_false, mj_nIle, mj_nIlt, mj_nIeq, mj_nI0, mj_nIc, mj_nIadd, mj_nIs, mj_ez, mj_ze, mj_eo, mj_ltz, mj_lez, mj_zlt, mj_olt, mj_lto, mj_leo, mj_ole, mj_nIn, mj_nnI, nl_2, nl_3, nl_4, nl_5, nl_6, nl_7, nl_8, nl_9, nl_10, nl_11, nl_12, nl_13, nl_14, nl_15, nl_16, nl_17, nl_18, nl_19, nl_20, nl_21, nl_22, nl_23, nl_24, nl_25, nl_26, nl_27, nl_28, nl_29, nl_30, nl_31, nl_32, nl_33, nl_34, nl_35, nl_36, nl_37, nl_38, nl_39, nl_40, nl_41, nl_42, nl_43, nl_44, nl_45, nl_46, nl_47, nl_48, nl_49, nl_50, nl_51, nl_52, nl_53, nl_54, nl_55, nl_56, nl_57, nl_58, nl_59, nl_60, nl_61, nl_62, nl_63, nl_64, nl_65, nl_66, nl_67, nl_68, nl_69, nl_92, nl_97, nl_99, nl_100, nl_122, nl_127, nl_128, nl_131, nl_132, nl_150, nl_200, nl_255, nl_256, nl_300, nl_342, nl_380, nl_381, nl_400, nl_401, nl_420, nl_500, nl_600, nl_800, nl_999, nl_1000, nl_1023, nl_1024, nl_1200, nl_2048, nl_2100, nl_4096, nl_9999, nl_10000, nl_10240, nl_999999, nl_1000000, if_pos, if_neg, hp, hbb]
          · simp (disch := omega) only [q110_0, q110_19, q110_31, q110_34, q110_36, q110_47, q110_53, q110_59, q110_62, q110_64, q110_96, q110_107, q110_118, q110_129, q110_140, q110_148, q110_155, e110, s_within, lw_E1s, lw_5, E0, E1, E2, E3, E4, eq_self, mj_bi_some, mj_bv_some, mj_bj_some, mj_br_some, mj_r0, mj_r1, mj_q0, mj_q1, mj_b01, mj_q2, if_true, if_false, mj_it, mj_if, true_and, and_true, false_and, and_false, not_true_eq_false, not_false_eq_true, true_or, or_true, false_or, or_false, mj_nIle, mj_nIlt, mj_nIeq, mj_nI0, mj_nIc, mj_nIadd, mj_nIs, mj_ez, mj_ze, mj_eo, mj_ltz, mj_lez, mj_zlt, mj_olt, mj_lto, mj_leo, mj_ole, mj_nIn, mj_nnI, nl_2, nl_3, nl_4, nl_5, nl_6, nl_7, nl_8, nl_9, nl_10, nl_11, nl_12, nl_13, nl_14, nl_15, nl_16, nl_17, nl_18, nl_19, nl_20, nl_21, nl_22, nl_23, nl_24, nl_25, nl_26, nl_27, nl_28, nl_29, nl_30, nl_31, nl_32, nl_33, nl_34, nl_35, nl_36, nl_37, nl_38, nl_39, nl_40, nl_41, nl_42, nl_43, nl_44, nl_45, nl_46, nl_47, nl_48, nl_49, nl_50, nl_51, nl_52, nl_53, nl_54, nl_55, nl_56, nl_57, nl_58, nl_59, nl_60, nl_61, nl_62, nl_63, nl_64, nl_65, nl_66, nl_67, nl_68, nl_69, nl_92, nl_97, nl_99, nl_100, nl_122, nl_127, nl_128, nl_131, nl_132, nl_150, nl_200, nl_255, nl_256, nl_300, nl_342, nl_380, nl_381, nl_400, nl_401, nl_420, nl_500, nl_600, nl_800, nl_999, nl_1000, nl_1023, nl_1024, nl_1200, nl_2048, nl_2100, nl_4096, nl_9999, nl_10000, nl_10240, nl_999999, nl_1000000, if_pos, if_neg, hp]
        · have mN2 : (mj_u hi 205 0 0) 205 6 = nI n := by simp (disch := omega) only [mj_u_pt]; exact mN
          have mL2 : (mj_u hi 205 0 0) 205 7 = nI l := by simp (disch := omega) only [mj_u_pt]; exact mL
          by_cases hbb : 0 ≤ b ∧ b < nI n
          · have hp : ¬ (0 ≤ p ∧ p ≤ nI 99) := fun z => hv ⟨z, hbb⟩
            simp (disch := omega) only [q173_0, q173_12, q173_17, q173_30, q173_42, q173_57, q173_69, q173_81, e173, q172_0, q172_7, q172_15, q172_30, q172_40, q172_43, q172_46, q172_53, q172_54, q172_55, q172_62, q172_70, q172_87, q172_88, q172_91, q172_98, q172_99, e172, s_isIn, s_dlM mN2, s_ltM mL2, eq_self, mj_bi_some, mj_bv_some, mj_bj_some, mj_br_some, mj_r0, mj_r1, mj_q0, mj_q1, mj_b01, mj_q2, if_true, if_false, mj_it, mj_if, true_and, and_true, false_and, and_false, not_true_eq_false, not_false_eq_true, true_or, or_true, false_or, or_false, mj_nIle, mj_nIlt, mj_nIeq, mj_nI0, mj_nIc, mj_nIadd, mj_nIs, mj_ez, mj_ze, mj_eo, mj_ltz, mj_lez, mj_zlt, mj_olt, mj_lto, mj_leo, mj_ole, mj_nIn, mj_nnI, nl_2, nl_3, nl_4, nl_5, nl_6, nl_7, nl_8, nl_9, nl_10, nl_11, nl_12, nl_13, nl_14, nl_15, nl_16, nl_17, nl_18, nl_19, nl_20, nl_21, nl_22, nl_23, nl_24, nl_25, nl_26, nl_27, nl_28, nl_29, nl_30, nl_31, nl_32, nl_33, nl_34, nl_35, nl_36, nl_37, nl_38, nl_39, nl_40, nl_41, nl_42, nl_43, nl_44, nl_45, nl_46, nl_47, nl_48, nl_49, nl_50, nl_51, nl_52, nl_53, nl_54, nl_55, nl_56, nl_57, nl_58, nl_59, nl_60, nl_61, nl_62, nl_63, nl_64, nl_65, nl_66, nl_67, nl_68, nl_69, nl_92, nl_97, nl_99, nl_100, nl_122, nl_127, nl_128, nl_131, nl_132, nl_150, nl_200, nl_255, nl_256, nl_300, nl_342, nl_380, nl_381, nl_400, nl_401, nl_420, nl_500, nl_600, nl_800, nl_999, nl_1000, nl_1023, nl_1024, nl_1200, nl_2048, nl_2100, nl_4096, nl_9999, nl_10000, nl_10240, nl_999999, nl_1000000, if_pos, if_neg, hp, hbb]
          · simp (disch := omega) only [q173_0, q173_12, q173_17, q173_30, q173_42, q173_57, q173_69, q173_81, e173, q172_0, q172_7, q172_15, q172_30, q172_40, q172_43, q172_46, q172_53, q172_54, q172_55, q172_62, q172_70, q172_87, q172_88, q172_91, q172_98, q172_99, e172, s_isIn, s_dlM mN2, s_ltM mL2, eq_self, mj_bi_some, mj_bv_some, mj_bj_some, mj_br_some, mj_r0, mj_r1, mj_q0, mj_q1, mj_b01, mj_q2, if_true, if_false, mj_it, mj_if, true_and, and_true, false_and, and_false, not_true_eq_false, not_false_eq_true, true_or, or_true, false_or, or_false, mj_nIle, mj_nIlt, mj_nIeq, mj_nI0, mj_nIc, mj_nIadd, mj_nIs, mj_ez, mj_ze, mj_eo, mj_ltz, mj_lez, mj_zlt, mj_olt, mj_lto, mj_leo, mj_ole, mj_nIn, mj_nnI, nl_2, nl_3, nl_4, nl_5, nl_6, nl_7, nl_8, nl_9, nl_10, nl_11, nl_12, nl_13, nl_14, nl_15, nl_16, nl_17, nl_18, nl_19, nl_20, nl_21, nl_22, nl_23, nl_24, nl_25, nl_26, nl_27, nl_28, nl_29, nl_30, nl_31, nl_32, nl_33, nl_34, nl_35, nl_36, nl_37, nl_38, nl_39, nl_40, nl_41, nl_42, nl_43, nl_44, nl_45, nl_46, nl_47, nl_48, nl_49, nl_50, nl_51, nl_52, nl_53, nl_54, nl_55, nl_56, nl_57, nl_58, nl_59, nl_60, nl_61, nl_62, nl_63, nl_64, nl_65, nl_66, nl_67, nl_68, nl_69, nl_92, nl_97, nl_99, nl_100, nl_122, nl_127, nl_128, nl_131, nl_132, nl_150, nl_200, nl_255, nl_256, nl_300, nl_342, nl_380, nl_381, nl_400, nl_401, nl_420, nl_500, nl_600, nl_800, nl_999, nl_1000, nl_1023, nl_1024, nl_1200, nl_2048, nl_2100, nl_4096, nl_9999, nl_10000, nl_10240, nl_999999, nl_1000000, if_pos, if_neg, hbb]
    · by_cases hv : (0 ≤ p ∧ p ≤ nI 9) ∧ (0 ≤ b ∧ b < nI n)
      · obtain ⟨hp, hbb⟩ := hv
        obtain ⟨V, hV, rfl⟩ := mj_ofn hp.1
        have hV2 : V ≤ 9 := by have := hp.2; rw [mj_nIle hV (by omega)] at this; exact this
        obtain ⟨k, hk, rfl⟩ := mj_ofn hbb.1
        have hk2 : k < n := by have := hbb.2; rw [mj_nIlt hk (by omega)] at this; exact this
        refine ⟨1, w, c, mj_u (mj_u hi 4 k (nI V)) 91 0 0, hl, mj_u (mj_u (mj_u (mj_u (mj_u hi 4 k (nI V)) 91 0 0) 205 0 0) 209 k (nI V)) 205 3 0, ?_, ?_, iv_set1 q hk2 hV2, hw⟩
        · simp (disch := omega) only [q110_0, q110_19, q110_31, q110_34, q110_36, q110_47, q110_53, q110_59, q110_62, q110_64, q110_96, q110_107, q110_118, q110_129, q110_140, q110_148, q110_155, e110, s_within, s_forget, s_dlX n10 a0, s_ltX l12 a1, lw_E1s, lw_5, E0, E1, E2, E3, E4, eq_self, mj_bi_some, mj_bv_some, mj_bj_some, mj_br_some, mj_r0, mj_r1, mj_q0, mj_q1, mj_b01, mj_q2, if_true, if_false, mj_it, mj_if, true_and, and_true, false_and, and_false, not_true_eq_false, not_false_eq_true, true_or, or_true, false_or, or_false, mj_nIle, mj_nIlt, mj_nIeq, mj_nI0, mj_nIc, mj_nIadd, mj_nIs, mj_ez, mj_ze, mj_eo, mj_ltz, mj_lez, mj_zlt, mj_olt, mj_lto, mj_leo, mj_ole, mj_nIn, mj_nnI, nl_2, nl_3, nl_4, nl_5, nl_6, nl_7, nl_8, nl_9, nl_10, nl_11, nl_12, nl_13, nl_14, nl_15, nl_16, nl_17, nl_18, nl_19, nl_20, nl_21, nl_22, nl_23, nl_24, nl_25, nl_26, nl_27, nl_28, nl_29, nl_30, nl_31, nl_32, nl_33, nl_34, nl_35, nl_36, nl_37, nl_38, nl_39, nl_40, nl_41, nl_42, nl_43, nl_44, nl_45, nl_46, nl_47, nl_48, nl_49, nl_50, nl_51, nl_52, nl_53, nl_54, nl_55, nl_56, nl_57, nl_58, nl_59, nl_60, nl_61, nl_62, nl_63, nl_64, nl_65, nl_66, nl_67, nl_68, nl_69, nl_92, nl_97, nl_99, nl_100, nl_122, nl_127, nl_128, nl_131, nl_132, nl_150, nl_200, nl_255, nl_256, nl_300, nl_342, nl_380, nl_381, nl_400, nl_401, nl_420, nl_500, nl_600, nl_800, nl_999, nl_1000, nl_1023, nl_1024, nl_1200, nl_2048, nl_2100, nl_4096, nl_9999, nl_10000, nl_10240, nl_999999, nl_1000000, if_pos, if_neg, hp, hbb, mj_u_pt, show mj_sw (nI 1) 0 140 [96, 107, 118, 129] = 107 from rfl]
        · have mN2 : (mj_u (mj_u (mj_u hi 4 k (nI V)) 91 0 0) 205 0 0) 205 6 = nI n := by simp (disch := omega) only [mj_u_pt]; exact mN
          have mL2 : (mj_u (mj_u (mj_u hi 4 k (nI V)) 91 0 0) 205 0 0) 205 7 = nI l := by simp (disch := omega) only [mj_u_pt]; exact mL
          simp (disch := omega) only [q173_0, q173_12, q173_17, q173_30, q173_42, q173_57, q173_69, q173_81, e173, q172_0, q172_7, q172_15, q172_30, q172_40, q172_43, q172_46, q172_53, q172_54, q172_55, q172_62, q172_70, q172_87, q172_88, q172_91, q172_98, q172_99, e172, s_isIn, s_dlM mN2, s_ltM mL2, eq_self, mj_bi_some, mj_bv_some, mj_bj_some, mj_br_some, mj_r0, mj_r1, mj_q0, mj_q1, mj_b01, mj_q2, if_true, if_false, mj_it, mj_if, true_and, and_true, false_and, and_false, not_true_eq_false, not_false_eq_true, true_or, or_true, false_or, or_false, mj_nIle, mj_nIlt, mj_nIeq, mj_nI0, mj_nIc, mj_nIadd, mj_nIs, mj_ez, mj_ze, mj_eo, mj_ltz, mj_lez, mj_zlt, mj_olt, mj_lto, mj_leo, mj_ole, mj_nIn, mj_nnI, nl_2, nl_3, nl_4, nl_5, nl_6, nl_7, nl_8, nl_9, nl_10, nl_11, nl_12, nl_13, nl_14, nl_15, nl_16, nl_17, nl_18, nl_19, nl_20, nl_21, nl_22, nl_23, nl_24, nl_25, nl_26, nl_27, nl_28, nl_29, nl_30, nl_31, nl_32, nl_33, nl_34, nl_35, nl_36, nl_37, nl_38, nl_39, nl_40, nl_41, nl_42, nl_43, nl_44, nl_45, nl_46, nl_47, nl_48, nl_49, nl_50, nl_51, nl_52, nl_53, nl_54, nl_55, nl_56, nl_57, nl_58, nl_59, nl_60, nl_61, nl_62, nl_63, nl_64, nl_65, nl_66, nl_67, nl_68, nl_69, nl_92, nl_97, nl_99, nl_100, nl_122, nl_127, nl_128, nl_131, nl_132, nl_150, nl_200, nl_255, nl_256, nl_300, nl_342, nl_380, nl_381, nl_400, nl_401, nl_420, nl_500, nl_600, nl_800, nl_999, nl_1000, nl_1023, nl_1024, nl_1200, nl_2048, nl_2100, nl_4096, nl_9999, nl_10000, nl_10240, nl_999999, nl_1000000, if_pos, if_neg, hp, hbb]
      · refine ⟨0, w, c, hi, hl, mj_u hi 205 0 0, ?_, ?_, iv_told q, hw⟩
        · by_cases hp : 0 ≤ p ∧ p ≤ nI 9
          · have hbb : ¬ (0 ≤ b ∧ b < nI n) := fun z => hv ⟨hp, z⟩
            simp (disch := omega) only [q110_0, q110_19, q110_31, q110_34, q110_36, q110_47, q110_53, q110_59, q110_62, q110_64, q110_96, q110_107, q110_118, q110_129, q110_140, q110_148, q110_155, e110, s_within, s_dlX n10 a0, s_ltX l12 a1, lw_E1s, lw_5, E0, E1, E2, E3, E4, eq_self, mj_bi_some, mj_bv_some, mj_bj_some, mj_br_some, mj_r0, mj_r1, mj_q0, mj_q1, mj_b01, mj_q2, if_true, if_false, mj_it, mj_if, true_and, and_true, false_and, and_false, not_true_eq_false, not_false_eq_true, true_or, or_true, false_or, or_false, mj_nIle, mj_nIlt, mj_nIeq, mj_nI0, mj_nIc, mj_nIadd, mj_nIs, mj_ez, mj_ze, mj_eo, mj_ltz, mj_lez, mj_zlt, mj_olt, mj_lto, mj_leo, mj_ole, mj_nIn, mj_nnI, nl_2, nl_3, nl_4, nl_5, nl_6, nl_7, nl_8, nl_9, nl_10, nl_11, nl_12, nl_13, nl_14, nl_15, nl_16, nl_17, nl_18, nl_19, nl_20, nl_21, nl_22, nl_23, nl_24, nl_25, nl_26, nl_27, nl_28, nl_29, nl_30, nl_31, nl_32, nl_33, nl_34, nl_35, nl_36, nl_37, nl_38, nl_39, nl_40, nl_41, nl_42, nl_43, nl_44, nl_45, nl_46, nl_47, nl_48, nl_49, nl_50, nl_51, nl_52, nl_53, nl_54, nl_55, nl_56, nl_57, nl_58, nl_59, nl_60, nl_61, nl_62, nl_63, nl_64, nl_65, nl_66, nl_67, nl_68, nl_69, nl_92, nl_97, nl_99, nl_100, nl_122, nl_127, nl_128, nl_131, nl_132, nl_150, nl_200, nl_255, nl_256, nl_300, nl_342, nl_380, nl_381, nl_400, nl_401, nl_420, nl_500, nl_600, nl_800, nl_999, nl_1000, nl_1023, nl_1024, nl_1200, nl_2048, nl_2100, nl_4096, nl_9999, nl_10000, nl_10240, nl_999999, nl_1000000, if_pos, if_neg, hp, hbb]
          · simp (disch := omega) only [q110_0, q110_19, q110_31, q110_34, q110_36, q110_47, q110_53, q110_59, q110_62, q110_64, q110_96, q110_107, q110_118, q110_129, q110_140, q110_148, q110_155, e110, s_within, lw_E1s, lw_5, E0, E1, E2, E3, E4, eq_self, mj_bi_some, mj_bv_some, mj_bj_some, mj_br_some, mj_r0, mj_r1, mj_q0, mj_q1, mj_b01, mj_q2, if_true, if_false, mj_it, mj_if, true_and, and_true, false_and, and_false, not_true_eq_false, not_false_eq_true, true_or, or_true, false_or, or_false, mj_nIle, mj_nIlt, mj_nIeq, mj_nI0, mj_nIc, mj_nIadd, mj_nIs, mj_ez, mj_ze, mj_eo, mj_ltz, mj_lez, mj_zlt, mj_olt, mj_lto, mj_leo, mj_ole, mj_nIn, mj_nnI, nl_2, nl_3, nl_4, nl_5, nl_6, nl_7, nl_8, nl_9, nl_10, nl_11, nl_12, nl_13, nl_14, nl_15, nl_16, nl_17, nl_18, nl_19, nl_20, nl_21, nl_22, nl_23, nl_24, nl_25, nl_26, nl_27, nl_28, nl_29, nl_30, nl_31, nl_32, nl_33, nl_34, nl_35, nl_36, nl_37, nl_38, nl_39, nl_40, nl_41, nl_42, nl_43, nl_44, nl_45, nl_46, nl_47, nl_48, nl_49, nl_50, nl_51, nl_52, nl_53, nl_54, nl_55, nl_56, nl_57, nl_58, nl_59, nl_60, nl_61, nl_62, nl_63, nl_64, nl_65, nl_66, nl_67, nl_68, nl_69, nl_92, nl_97, nl_99, nl_100, nl_122, nl_127, nl_128, nl_131, nl_132, nl_150, nl_200, nl_255, nl_256, nl_300, nl_342, nl_380, nl_381, nl_400, nl_401, nl_420, nl_500, nl_600, nl_800, nl_999, nl_1000, nl_1023, nl_1024, nl_1200, nl_2048, nl_2100, nl_4096, nl_9999, nl_10000, nl_10240, nl_999999, nl_1000000, if_pos, if_neg, hp]
        · have mN2 : (mj_u hi 205 0 0) 205 6 = nI n := by simp (disch := omega) only [mj_u_pt]; exact mN
          have mL2 : (mj_u hi 205 0 0) 205 7 = nI l := by simp (disch := omega) only [mj_u_pt]; exact mL
          by_cases hbb : 0 ≤ b ∧ b < nI n
          · have hp : ¬ (0 ≤ p ∧ p ≤ nI 9) := fun z => hv ⟨z, hbb⟩
            simp (disch := omega) only [q173_0, q173_12, q173_17, q173_30, q173_42, q173_57, q173_69, q173_81, e173, q172_0, q172_7, q172_15, q172_30, q172_40, q172_43, q172_46, q172_53, q172_54, q172_55, q172_62, q172_70, q172_87, q172_88, q172_91, q172_98, q172_99, e172, s_isIn, s_dlM mN2, s_ltM mL2, eq_self, mj_bi_some, mj_bv_some, mj_bj_some, mj_br_some, mj_r0, mj_r1, mj_q0, mj_q1, mj_b01, mj_q2, if_true, if_false, mj_it, mj_if, true_and, and_true, false_and, and_false, not_true_eq_false, not_false_eq_true, true_or, or_true, false_or, or_false, mj_nIle, mj_nIlt, mj_nIeq, mj_nI0, mj_nIc, mj_nIadd, mj_nIs, mj_ez, mj_ze, mj_eo, mj_ltz, mj_lez, mj_zlt, mj_olt, mj_lto, mj_leo, mj_ole, mj_nIn, mj_nnI, nl_2, nl_3, nl_4, nl_5, nl_6, nl_7, nl_8, nl_9, nl_10, nl_11, nl_12, nl_13, nl_14, nl_15, nl_16, nl_17, nl_18, nl_19, nl_20, nl_21, nl_22, nl_23, nl_24, nl_25, nl_26, nl_27, nl_28, nl_29, nl_30, nl_31, nl_32, nl_33, nl_34, nl_35, nl_36, nl_37, nl_38, nl_39, nl_40, nl_41, nl_42, nl_43, nl_44, nl_45, nl_46, nl_47, nl_48, nl_49, nl_50, nl_51, nl_52, nl_53, nl_54, nl_55, nl_56, nl_57, nl_58, nl_59, nl_60, nl_61, nl_62, nl_63, nl_64, nl_65, nl_66, nl_67, nl_68, nl_69, nl_92, nl_97, nl_99, nl_100, nl_122, nl_127, nl_128, nl_131, nl_132, nl_150, nl_200, nl_255, nl_256, nl_300, nl_342, nl_380, nl_381, nl_400, nl_401, nl_420, nl_500, nl_600, nl_800, nl_999, nl_1000, nl_1023, nl_1024, nl_1200, nl_2048, nl_2100, nl_4096, nl_9999, nl_10000, nl_10240, nl_999999, nl_1000000, if_pos, if_neg, hp, hbb]
          · simp (disch := omega) only [q173_0, q173_12, q173_17, q173_30, q173_42, q173_57, q173_69, q173_81, e173, q172_0, q172_7, q172_15, q172_30, q172_40, q172_43, q172_46, q172_53, q172_54, q172_55, q172_62, q172_70, q172_87, q172_88, q172_91, q172_98, q172_99, e172, s_isIn, s_dlM mN2, s_ltM mL2, eq_self, mj_bi_some, mj_bv_some, mj_bj_some, mj_br_some, mj_r0, mj_r1, mj_q0, mj_q1, mj_b01, mj_q2, if_true, if_false, mj_it, mj_if, true_and, and_true, false_and, and_false, not_true_eq_false, not_false_eq_true, true_or, or_true, false_or, or_false, mj_nIle, mj_nIlt, mj_nIeq, mj_nI0, mj_nIc, mj_nIadd, mj_nIs, mj_ez, mj_ze, mj_eo, mj_ltz, mj_lez, mj_zlt, mj_olt, mj_lto, mj_leo, mj_ole, mj_nIn, mj_nnI, nl_2, nl_3, nl_4, nl_5, nl_6, nl_7, nl_8, nl_9, nl_10, nl_11, nl_12, nl_13, nl_14, nl_15, nl_16, nl_17, nl_18, nl_19, nl_20, nl_21, nl_22, nl_23, nl_24, nl_25, nl_26, nl_27, nl_28, nl_29, nl_30, nl_31, nl_32, nl_33, nl_34, nl_35, nl_36, nl_37, nl_38, nl_39, nl_40, nl_41, nl_42, nl_43, nl_44, nl_45, nl_46, nl_47, nl_48, nl_49, nl_50, nl_51, nl_52, nl_53, nl_54, nl_55, nl_56, nl_57, nl_58, nl_59, nl_60, nl_61, nl_62, nl_63, nl_64, nl_65, nl_66, nl_67, nl_68, nl_69, nl_92, nl_97, nl_99, nl_100, nl_122, nl_127, nl_128, nl_131, nl_132, nl_150, nl_200, nl_255, nl_256, nl_300, nl_342, nl_380, nl_381, nl_400, nl_401, nl_420, nl_500, nl_600, nl_800, nl_999, nl_1000, nl_1023, nl_1024, nl_1200, nl_2048, nl_2100, nl_4096, nl_9999, nl_10000, nl_10240, nl_999999, nl_1000000, if_pos, if_neg, hbb]
    · by_cases hv : (0 ≤ p ∧ p ≤ nI 9999) ∧ (0 ≤ b ∧ b < nI n)
      · obtain ⟨hp, hbb⟩ := hv
        obtain ⟨V, hV, rfl⟩ := mj_ofn hp.1
        have hV2 : V ≤ 9999 := by have := hp.2; rw [mj_nIle hV (by omega)] at this; exact this
        obtain ⟨k, hk, rfl⟩ := mj_ofn hbb.1
        have hk2 : k < n := by have := hbb.2; rw [mj_nIlt hk (by omega)] at this; exact this
        refine ⟨1, w, c, mj_u (mj_u hi 5 k (nI V)) 91 0 0, hl, mj_u (mj_u (mj_u (mj_u (mj_u hi 5 k (nI V)) 91 0 0) 205 0 0) 206 (15 + k) (nI V)) 205 3 0, ?_, ?_, iv_set2 q hk2 hV2, hw⟩
        · simp (disch := omega) only [q110_0, q110_19, q110_31, q110_34, q110_36, q110_47, q110_53, q110_59, q110_62, q110_64, q110_96, q110_107, q110_118, q110_129, q110_140, q110_148, q110_155, e110, s_within, s_forget, s_dlX n10 a0, s_ltX l12 a1, lw_E1s, lw_5, E0, E1, E2, E3, E4, eq_self, mj_bi_some, mj_bv_some, mj_bj_some, mj_br_some, mj_r0, mj_r1, mj_q0, mj_q1, mj_b01, mj_q2, if_true, if_false, mj_it, mj_if, true_and, and_true, false_and, and_false, not_true_eq_false, not_false_eq_true, true_or, or_true, false_or, or_false, mj_nIle, mj_nIlt, mj_nIeq, mj_nI0, mj_nIc, mj_nIadd, mj_nIs, mj_ez, mj_ze, mj_eo, mj_ltz, mj_lez, mj_zlt, mj_olt, mj_lto, mj_leo, mj_ole, mj_nIn, mj_nnI, nl_2, nl_3, nl_4, nl_5, nl_6, nl_7, nl_8, nl_9, nl_10, nl_11, nl_12, nl_13, nl_14, nl_15, nl_16, nl_17, nl_18, nl_19, nl_20, nl_21, nl_22, nl_23, nl_24, nl_25, nl_26, nl_27, nl_28, nl_29, nl_30, nl_31, nl_32, nl_33, nl_34, nl_35, nl_36, nl_37, nl_38, nl_39, nl_40, nl_41, nl_42, nl_43, nl_44, nl_45, nl_46, nl_47, nl_48, nl_49, nl_50, nl_51, nl_52, nl_53, nl_54, nl_55, nl_56, nl_57, nl_58, nl_59, nl_60, nl_61, nl_62, nl_63, nl_64, nl_65, nl_66, nl_67, nl_68, nl_69, nl_92, nl_97, nl_99, nl_100, nl_122, nl_127, nl_128, nl_131, nl_132, nl_150, nl_200, nl_255, nl_256, nl_300, nl_342, nl_380, nl_381, nl_400, nl_401, nl_420, nl_500, nl_600, nl_800, nl_999, nl_1000, nl_1023, nl_1024, nl_1200, nl_2048, nl_2100, nl_4096, nl_9999, nl_10000, nl_10240, nl_999999, nl_1000000, if_pos, if_neg, hp, hbb, mj_u_pt, show mj_sw (nI 2) 0 140 [96, 107, 118, 129] = 118 from rfl]
        · have mN2 : (mj_u (mj_u (mj_u hi 5 k (nI V)) 91 0 0) 205 0 0) 205 6 = nI n := by simp (disch := omega) only [mj_u_pt]; exact mN
          have mL2 : (mj_u (mj_u (mj_u hi 5 k (nI V)) 91 0 0) 205 0 0) 205 7 = nI l := by simp (disch := omega) only [mj_u_pt]; exact mL
          simp (disch := omega) only [q173_0, q173_12, q173_17, q173_30, q173_42, q173_57, q173_69, q173_81, e173, q172_0, q172_7, q172_15, q172_30, q172_40, q172_43, q172_46, q172_53, q172_54, q172_55, q172_62, q172_70, q172_87, q172_88, q172_91, q172_98, q172_99, e172, s_isIn, s_dlM mN2, s_ltM mL2, eq_self, mj_bi_some, mj_bv_some, mj_bj_some, mj_br_some, mj_r0, mj_r1, mj_q0, mj_q1, mj_b01, mj_q2, if_true, if_false, mj_it, mj_if, true_and, and_true, false_and, and_false, not_true_eq_false, not_false_eq_true, true_or, or_true, false_or, or_false, mj_nIle, mj_nIlt, mj_nIeq, mj_nI0, mj_nIc, mj_nIadd, mj_nIs, mj_ez, mj_ze, mj_eo, mj_ltz, mj_lez, mj_zlt, mj_olt, mj_lto, mj_leo, mj_ole, mj_nIn, mj_nnI, nl_2, nl_3, nl_4, nl_5, nl_6, nl_7, nl_8, nl_9, nl_10, nl_11, nl_12, nl_13, nl_14, nl_15, nl_16, nl_17, nl_18, nl_19, nl_20, nl_21, nl_22, nl_23, nl_24, nl_25, nl_26, nl_27, nl_28, nl_29, nl_30, nl_31, nl_32, nl_33, nl_34, nl_35, nl_36, nl_37, nl_38, nl_39, nl_40, nl_41, nl_42, nl_43, nl_44, nl_45, nl_46, nl_47, nl_48, nl_49, nl_50, nl_51, nl_52, nl_53, nl_54, nl_55, nl_56, nl_57, nl_58, nl_59, nl_60, nl_61, nl_62, nl_63, nl_64, nl_65, nl_66, nl_67, nl_68, nl_69, nl_92, nl_97, nl_99, nl_100, nl_122, nl_127, nl_128, nl_131, nl_132, nl_150, nl_200, nl_255, nl_256, nl_300, nl_342, nl_380, nl_381, nl_400, nl_401, nl_420, nl_500, nl_600, nl_800, nl_999, nl_1000, nl_1023, nl_1024, nl_1200, nl_2048, nl_2100, nl_4096, nl_9999, nl_10000, nl_10240, nl_999999, nl_1000000, if_pos, if_neg, hp, hbb]
      · refine ⟨0, w, c, hi, hl, mj_u hi 205 0 0, ?_, ?_, iv_told q, hw⟩
        · by_cases hp : 0 ≤ p ∧ p ≤ nI 9999
          · have hbb : ¬ (0 ≤ b ∧ b < nI n) := fun z => hv ⟨hp, z⟩
            simp (disch := omega) only [q110_0, q110_19, q110_31, q110_34, q110_36, q110_47, q110_53, q110_59, q110_62, q110_64, q110_96, q110_107, q110_118, q110_129, q110_140, q110_148, q110_155, e110, s_within, s_dlX n10 a0, s_ltX l12 a1, lw_E1s, lw_5, E0, E1, E2, E3, E4, eq_self, mj_bi_some, mj_bv_some, mj_bj_some, mj_br_some, mj_r0, mj_r1, mj_q0, mj_q1, mj_b01, mj_q2, if_true, if_false, mj_it, mj_if, true_and, and_true, false_and, and_false, not_true_eq_false, not_false_eq_true, true_or, or_true, false_or, or_false, mj_nIle, mj_nIlt, mj_nIeq, mj_nI0, mj_nIc, mj_nIadd, mj_nIs, mj_ez, mj_ze, mj_eo, mj_ltz, mj_lez, mj_zlt, mj_olt, mj_lto, mj_leo, mj_ole, mj_nIn, mj_nnI, nl_2, nl_3, nl_4, nl_5, nl_6, nl_7, nl_8, nl_9, nl_10, nl_11, nl_12, nl_13, nl_14, nl_15, nl_16, nl_17, nl_18, nl_19, nl_20, nl_21, nl_22, nl_23, nl_24, nl_25, nl_26, nl_27, nl_28, nl_29, nl_30, nl_31, nl_32, nl_33, nl_34, nl_35, nl_36, nl_37, nl_38, nl_39, nl_40, nl_41, nl_42, nl_43, nl_44, nl_45, nl_46, nl_47, nl_48, nl_49, nl_50, nl_51, nl_52, nl_53, nl_54, nl_55, nl_56, nl_57, nl_58, nl_59, nl_60, nl_61, nl_62, nl_63, nl_64, nl_65, nl_66, nl_67, nl_68, nl_69, nl_92, nl_97, nl_99, nl_100, nl_122, nl_127, nl_128, nl_131, nl_132, nl_150, nl_200, nl_255, nl_256, nl_300, nl_342, nl_380, nl_381, nl_400, nl_401, nl_420, nl_500, nl_600, nl_800, nl_999, nl_1000, nl_1023, nl_1024, nl_1200, nl_2048, nl_2100, nl_4096, nl_9999, nl_10000, nl_10240, nl_999999, nl_1000000, if_pos, if_neg, hp, hbb]
          · simp (disch := omega) only [q110_0, q110_19, q110_31, q110_34, q110_36, q110_47, q110_53, q110_59, q110_62, q110_64, q110_96, q110_107, q110_118, q110_129, q110_140, q110_148, q110_155, e110, s_within, lw_E1s, lw_5, E0, E1, E2, E3, E4, eq_self, mj_bi_some, mj_bv_some, mj_bj_some, mj_br_some, mj_r0, mj_r1, mj_q0, mj_q1, mj_b01, mj_q2, if_true, if_false, mj_it, mj_if, true_and, and_true, false_and, and_false, not_true_eq_false, not_false_eq_true, true_or, or_true, false_or, or_false, mj_nIle, mj_nIlt, mj_nIeq, mj_nI0, mj_nIc, mj_nIadd, mj_nIs, mj_ez, mj_ze, mj_eo, mj_ltz, mj_lez, mj_zlt, mj_olt, mj_lto, mj_leo, mj_ole, mj_nIn, mj_nnI, nl_2, nl_3, nl_4, nl_5, nl_6, nl_7, nl_8, nl_9, nl_10, nl_11, nl_12, nl_13, nl_14, nl_15, nl_16, nl_17, nl_18, nl_19, nl_20, nl_21, nl_22, nl_23, nl_24, nl_25, nl_26, nl_27, nl_28, nl_29, nl_30, nl_31, nl_32, nl_33, nl_34, nl_35, nl_36, nl_37, nl_38, nl_39, nl_40, nl_41, nl_42, nl_43, nl_44, nl_45, nl_46, nl_47, nl_48, nl_49, nl_50, nl_51, nl_52, nl_53, nl_54, nl_55, nl_56, nl_57, nl_58, nl_59, nl_60, nl_61, nl_62, nl_63, nl_64, nl_65, nl_66, nl_67, nl_68, nl_69, nl_92, nl_97, nl_99, nl_100, nl_122, nl_127, nl_128, nl_131, nl_132, nl_150, nl_200, nl_255, nl_256, nl_300, nl_342, nl_380, nl_381, nl_400, nl_401, nl_420, nl_500, nl_600, nl_800, nl_999, nl_1000, nl_1023, nl_1024, nl_1200, nl_2048, nl_2100, nl_4096, nl_9999, nl_10000, nl_10240, nl_999999, nl_1000000, if_pos, if_neg, hp]
        · have mN2 : (mj_u hi 205 0 0) 205 6 = nI n := by simp (disch := omega) only [mj_u_pt]; exact mN
          have mL2 : (mj_u hi 205 0 0) 205 7 = nI l := by simp (disch := omega) only [mj_u_pt]; exact mL
          by_cases hbb : 0 ≤ b ∧ b < nI n
          · have hp : ¬ (0 ≤ p ∧ p ≤ nI 9999) := fun z => hv ⟨z, hbb⟩
            simp (disch := omega) only [q173_0, q173_12, q173_17, q173_30, q173_42, q173_57, q173_69, q173_81, e173, q172_0, q172_7, q172_15, q172_30, q172_40, q172_43, q172_46, q172_53, q172_54, q172_55, q172_62, q172_70, q172_87, q172_88, q172_91, q172_98, q172_99, e172, s_isIn, s_dlM mN2, s_ltM mL2, eq_self, mj_bi_some, mj_bv_some, mj_bj_some, mj_br_some, mj_r0, mj_r1, mj_q0, mj_q1, mj_b01, mj_q2, if_true, if_false, mj_it, mj_if, true_and, and_true, false_and, and_false, not_true_eq_false, not_false_eq_true, true_or, or_true, false_or, or_false, mj_nIle, mj_nIlt, mj_nIeq, mj_nI0, mj_nIc, mj_nIadd, mj_nIs, mj_ez, mj_ze, mj_eo, mj_ltz, mj_lez, mj_zlt, mj_olt, mj_lto, mj_leo, mj_ole, mj_nIn, mj_nnI, nl_2, nl_3, nl_4, nl_5, nl_6, nl_7, nl_8, nl_9, nl_10, nl_11, nl_12, nl_13, nl_14, nl_15, nl_16, nl_17, nl_18, nl_19, nl_20, nl_21, nl_22, nl_23, nl_24, nl_25, nl_26, nl_27, nl_28, nl_29, nl_30, nl_31, nl_32, nl_33, nl_34, nl_35, nl_36, nl_37, nl_38, nl_39, nl_40, nl_41, nl_42, nl_43, nl_44, nl_45, nl_46, nl_47, nl_48, nl_49, nl_50, nl_51, nl_52, nl_53, nl_54, nl_55, nl_56, nl_57, nl_58, nl_59, nl_60, nl_61, nl_62, nl_63, nl_64, nl_65, nl_66, nl_67, nl_68, nl_69, nl_92, nl_97, nl_99, nl_100, nl_122, nl_127, nl_128, nl_131, nl_132, nl_150, nl_200, nl_255, nl_256, nl_300, nl_342, nl_380, nl_381, nl_400, nl_401, nl_420, nl_500, nl_600, nl_800, nl_999, nl_1000, nl_1023, nl_1024, nl_1200, nl_2048, nl_2100, nl_4096, nl_9999, nl_10000, nl_10240, nl_999999, nl_1000000, if_pos, if_neg, hp, hbb]
          · simp (disch := omega) only [q173_0, q173_12, q173_17, q173_30, q173_42, q173_57, q173_69, q173_81, e173, q172_0, q172_7, q172_15, q172_30, q172_40, q172_43, q172_46, q172_53, q172_54, q172_55, q172_62, q172_70, q172_87, q172_88, q172_91, q172_98, q172_99, e172, s_isIn, s_dlM mN2, s_ltM mL2, eq_self, mj_bi_some, mj_bv_some, mj_bj_some, mj_br_some, mj_r0, mj_r1, mj_q0, mj_q1, mj_b01, mj_q2, if_true, if_false, mj_it, mj_if, true_and, and_true, false_and, and_false, not_true_eq_false, not_false_eq_true, true_or, or_true, false_or, or_false, mj_nIle, mj_nIlt, mj_nIeq, mj_nI0, mj_nIc, mj_nIadd, mj_nIs, mj_ez, mj_ze, mj_eo, mj_ltz, mj_lez, mj_zlt, mj_olt, mj_lto, mj_leo, mj_ole, mj_nIn, mj_nnI, nl_2, nl_3, nl_4, nl_5, nl_6, nl_7, nl_8, nl_9, nl_10, nl_11, nl_12, nl_13, nl_14, nl_15, nl_16, nl_17, nl_18, nl_19, nl_20, nl_21, nl_22, nl_23, nl_24, nl_25, nl_26, nl_27, nl_28, nl_29, nl_30, nl_31, nl_32, nl_33, nl_34, nl_35, nl_36, nl_37, nl_38, nl_39, nl_40, nl_41, nl_42, nl_43, nl_44, nl_45, nl_46, nl_47, nl_48, nl_49, nl_50, nl_51, nl_52, nl_53, nl_54, nl_55, nl_56, nl_57, nl_58, nl_59, nl_60, nl_61, nl_62, nl_63, nl_64, nl_65, nl_66, nl_67, nl_68, nl_69, nl_92, nl_97, nl_99, nl_100, nl_122, nl_127, nl_128, nl_131, nl_132, nl_150, nl_200, nl_255, nl_256, nl_300, nl_342, nl_380, nl_381, nl_400, nl_401, nl_420, nl_500, nl_600, nl_800, nl_999, nl_1000, nl_1023, nl_1024, nl_1200, nl_2048, nl_2100, nl_4096, nl_9999, nl_10000, nl_10240, nl_999999, nl_1000000, if_pos, if_neg, hbb]
    · by_cases hv : (0 ≤ p ∧ p ≤ nI 999) ∧ (0 ≤ b ∧ b < nI l)
      · obtain ⟨hp, hbb⟩ := hv
        obtain ⟨V, hV, rfl⟩ := mj_ofn hp.1
        have hV2 : V ≤ 999 := by have := hp.2; rw [mj_nIle hV (by omega)] at this; exact this
        obtain ⟨k, hk, rfl⟩ := mj_ofn hbb.1
        have hk2 : k < l := by have := hbb.2; rw [mj_nIlt hk (by omega)] at this; exact this
        refine ⟨1, w, c, mj_u (mj_u hi 11 k (nI V)) 91 0 0, hl, mj_u (mj_u (mj_u (mj_u (mj_u hi 11 k (nI V)) 91 0 0) 205 0 0) 212 k (nI V)) 205 3 0, ?_, ?_, iv_set3 q hk2 hV2, hw⟩
        · simp (disch := omega) only [q110_0, q110_19, q110_31, q110_34, q110_36, q110_47, q110_53, q110_59, q110_62, q110_64, q110_96, q110_107, q110_118, q110_129, q110_140, q110_148, q110_155, e110, s_within, s_forget, s_dlX n10 a0, s_ltX l12 a1, lw_E1s, lw_5, E0, E1, E2, E3, E4, eq_self, mj_bi_some, mj_bv_some, mj_bj_some, mj_br_some, mj_r0, mj_r1, mj_q0, mj_q1, mj_b01, mj_q2, if_true, if_false, mj_it, mj_if, true_and, and_true, false_and, and_false, not_true_eq_false, not_false_eq_true, true_or, or_true, false_or, or_false, mj_nIle, mj_nIlt, mj_nIeq, mj_nI0, mj_nIc, mj_nIadd, mj_nIs, mj_ez, mj_ze, mj_eo, mj_ltz, mj_lez, mj_zlt, mj_olt, mj_lto, mj_leo, mj_ole, mj_nIn, mj_nnI, nl_2, nl_3, nl_4, nl_5, nl_6, nl_7, nl_8, nl_9, nl_10, nl_11, nl_12, nl_13, nl_14, nl_15, nl_16, nl_17, nl_18, nl_19, nl_20, nl_21, nl_22, nl_23, nl_24, nl_25, nl_26, nl_27, nl_28, nl_29, nl_30, nl_31, nl_32, nl_33, nl_34, nl_35, nl_36, nl_37, nl_38, nl_39, nl_40, nl_41, nl_42, nl_43, nl_44, nl_45, nl_46, nl_47, nl_48, nl_49, nl_50, nl_51, nl_52, nl_53, nl_54, nl_55, nl_56, nl_57, nl_58, nl_59, nl_60, nl_61, nl_62, nl_63, nl_64, nl_65, nl_66, nl_67, nl_68, nl_69, nl_92, nl_97, nl_99, nl_100, nl_122, nl_127, nl_128, nl_131, nl_132, nl_150, nl_200, nl_255, nl_256, nl_300, nl_342, nl_380, nl_381, nl_400, nl_401, nl_420, nl_500, nl_600, nl_800, nl_999, nl_1000, nl_1023, nl_1024, nl_1200, nl_2048, nl_2100, nl_4096, nl_9999, nl_10000, nl_10240, nl_999999, nl_1000000, if_pos, if_neg, hp, hbb, mj_u_pt, show mj_sw (nI 3) 0 140 [96, 107, 118, 129] = 129 from rfl]
        · have mN2 : (mj_u (mj_u (mj_u hi 11 k (nI V)) 91 0 0) 205 0 0) 205 6 = nI n := by simp (disch := omega) only [mj_u_pt]; exact mN
          have mL2 : (mj_u (mj_u (mj_u hi 11 k (nI V)) 91 0 0) 205 0 0) 205 7 = nI l := by simp (disch := omega) only [mj_u_pt]; exact mL
          simp (disch := omega) only [q173_0, q173_12, q173_17, q173_30, q173_42, q173_57, q173_69, q173_81, e173, q172_0, q172_7, q172_15, q172_30, q172_40, q172_43, q172_46, q172_53, q172_54, q172_55, q172_62, q172_70, q172_87, q172_88, q172_91, q172_98, q172_99, e172, s_isIn, s_dlM mN2, s_ltM mL2, eq_self, mj_bi_some, mj_bv_some, mj_bj_some, mj_br_some, mj_r0, mj_r1, mj_q0, mj_q1, mj_b01, mj_q2, if_true, if_false, mj_it, mj_if, true_and, and_true, false_and, and_false, not_true_eq_false, not_false_eq_true, true_or, or_true, false_or, or_false, mj_nIle, mj_nIlt, mj_nIeq, mj_nI0, mj_nIc, mj_nIadd, mj_nIs, mj_ez, mj_ze, mj_eo, mj_ltz, mj_lez, mj_zlt, mj_olt, mj_lto, mj_leo, mj_ole, mj_nIn, mj_nnI, nl_2, nl_3, nl_4, nl_5, nl_6, nl_7, nl_8, nl_9, nl_10, nl_11, nl_12, nl_13, nl_14, nl_15, nl_16, nl_17, nl_18, nl_19, nl_20, nl_21, nl_22, nl_23, nl_24, nl_25, nl_26, nl_27, nl_28, nl_29, nl_30, nl_31, nl_32, nl_33, nl_34, nl_35, nl_36, nl_37, nl_38, nl_39, nl_40, nl_41, nl_42, nl_43, nl_44, nl_45, nl_46, nl_47, nl_48, nl_49, nl_50, nl_51, nl_52, nl_53, nl_54, nl_55, nl_56, nl_57, nl_58, nl_59, nl_60, nl_61, nl_62, nl_63, nl_64, nl_65, nl_66, nl_67, nl_68, nl_69, nl_92, nl_97, nl_99, nl_100, nl_122, nl_127, nl_128, nl_131, nl_132, nl_150, nl_200, nl_255, nl_256, nl_300, nl_342, nl_380, nl_381, nl_400, nl_401, nl_420, nl_500, nl_600, nl_800, nl_999, nl_1000, nl_1023, nl_1024, nl_1200, nl_2048, nl_2100, nl_4096, nl_9999, nl_10000, nl_10240, nl_999999, nl_1000000, if_pos, if_neg, hp, hbb]
      · refine ⟨0, w, c, hi, hl, mj_u hi 205 0 0, ?_, ?_, iv_told q, hw⟩
        · by_cases hp : 0 ≤ p ∧ p ≤ nI 999
          · have hbb : ¬ (0 ≤ b ∧ b < nI l) := fun z => hv ⟨hp, z⟩
            simp (disch := omega) only [q110_0, q110_19, q110_31, q110_34, q110_36, q110_47, q110_53, q110_59, q110_62, q110_64, q110_96, q110_107, q110_118, q110_129, q110_140, q110_148, q110_155, e110, s_within, s_dlX n10 a0, s_ltX l12 a1, lw_E1s, lw_5, E0, E1, E2, E3, E4, eq_self, mj_bi_some, mj_bv_some, mj_bj_some, mj_br_some, mj_r0, mj_r1, mj_q0, mj_q1, mj_b01, mj_q2, if_true, if_false, mj_it, mj_if, true_and, and_true, false_and, and_false, not_true_eq_false, not_false_eq_true, true_or, or_true, false_or, or_false, mj_nIle, mj_nIlt, mj_nIeq, mj_nI0, mj_nIc, mj_nIadd, mj_nIs, mj_ez, mj_ze, mj_eo, mj_ltz, mj_lez, mj_zlt, mj_olt, mj_lto, mj_leo, mj_ole, mj_nIn, mj_nnI, nl_2, nl_3, nl_4, nl_5, nl_6, nl_7, nl_8, nl_9, nl_10, nl_11, nl_12, nl_13, nl_14, nl_15, nl_16, nl_17, nl_18, nl_19, nl_20, nl_21, nl_22, nl_23, nl_24, nl_25, nl_26, nl_27, nl_28, nl_29, nl_30, nl_31, nl_32, nl_33, nl_34, nl_35, nl_36, nl_37, nl_38, nl_39, nl_40, nl_41, nl_42, nl_43, nl_44, nl_45, nl_46, nl_47, nl_48, nl_49, nl_50, nl_51, nl_52, nl_53, nl_54, nl_55, nl_56, nl_57, nl_58, nl_59, nl_60, nl_61, nl_62, nl_63, nl_64, nl_65, nl_66, nl_67, nl_68, nl_69, nl_92, nl_97, nl_99, nl_100, nl_122, nl_127, nl_128, nl_131, nl_132, nl_150, nl_200, nl_255, nl_256, nl_300, nl_342, nl_380, nl_381, nl_400, nl_401, nl_420, nl_500, nl_600, nl_800, nl_999, nl_1000, nl_1023, nl_1024, nl_1200, nl_2048, nl_2100, nl_4096, nl_9999, nl_10000, nl_10240, nl_999999, nl_1000000, if_pos, if_neg, hp, hbb]
          · simp (disch := omega) only [q110_0, q110_19, q110_31, q110_34, q110_36, q110_47, q110_53, q110_59, q110_62, q110_64, q110_96, q110_107, q110_118, q110_129, q110_140, q110_148, q110_155, e110, s_within, lw_E1s, lw_5, E0, E1, E2, E3, E4, eq_self, mj_bi_some, mj_bv_some, mj_bj_some, mj_br_some, mj_r0, mj_r1, mj_q0, mj_q1, mj_b01, mj_q2, if_true, if_false, mj_it, mj_if, true_and, and_true, false_and, and_false, not_true_eq_false, not_false_eq_true, true_or, or_true, false_or, or_false, mj_nIle, mj_nIlt, mj_nIeq, mj_nI0, mj_nIc, mj_nIadd, mj_nIs, mj_ez, mj_ze, mj_eo, mj_ltz, mj_lez, mj_zlt, mj_olt, mj_lto, mj_leo, mj_ole, mj_nIn, mj_nnI, nl_2, nl_3, nl_4, nl_5, nl_6, nl_7, nl_8, nl_9, nl_10, nl_11, nl_12, nl_13, nl_14, nl_15, nl_16, nl_17, nl_18, nl_19, nl_20, nl_21, nl_22, nl_23, nl_24, nl_25, nl_26, nl_27, nl_28, nl_29, nl_30, nl_31, nl_32, nl_33, nl_34, nl_35, nl_36, nl_37, nl_38, nl_39, nl_40, nl_41, nl_42, nl_43, nl_44, nl_45, nl_46, nl_47, nl_48, nl_49, nl_50, nl_51, nl_52, nl_53, nl_54, nl_55, nl_56, nl_57, nl_58, nl_59, nl_60, nl_61, nl_62, nl_63, nl_64, nl_65, nl_66, nl_67, nl_68, nl_69, nl_92, nl_97, nl_99, nl_100, nl_122, nl_127, nl_128, nl_131, nl_132, nl_150, nl_200, nl_255, nl_256, nl_300, nl_342, nl_380, nl_381, nl_400, nl_401, nl_420, nl_500, nl_600, nl_800, nl_999, nl_1000, nl_1023, nl_1024, nl_1200, nl_2048, nl_2100, nl_4096, nl_9999, nl_10000, nl_10240, nl_999999, nl_1000000, if_pos, if_neg, hp]
        · have mN2 : (mj_u hi 205 0 0) 205 6 = nI n := by simp (disch := omega) only [mj_u_pt]; exact mN
          have mL2 : (mj_u hi 205 0 0) 205 7 = nI l := by simp (disch := omega) only [mj_u_pt]; exact mL
          by_cases hbb : 0 ≤ b ∧ b < nI l
          · have hp : ¬ (0 ≤ p ∧ p ≤ nI 999) := fun z => hv ⟨z, hbb⟩
            simp (disch := omega) only [q173_0, q173_12, q173_17, q173_30, q173_42, q173_57, q173_69, q173_81, e173, q172_0, q172_7, q172_15, q172_30, q172_40, q172_43, q172_46, q172_53, q172_54, q172_55, q172_62, q172_70, q172_87, q172_88, q172_91, q172_98, q172_99, e172, s_isIn, s_dlM mN2, s_ltM mL2, eq_self, mj_bi_some, mj_bv_some, mj_bj_some, mj_br_some, mj_r0, mj_r1, mj_q0, mj_q1, mj_b01, mj_q2, if_true, if_false, mj_it, mj_if, true_and, and_true, false_and, and_false, not_true_eq_false, not_false_eq_true, true_or, or_true, false_or, or_false, mj_nIle, mj_nIlt, mj_nIeq, mj_nI0, mj_nIc, mj_nIadd, mj_nIs, mj_ez, mj_ze, mj_eo, mj_ltz, mj_lez, mj_zlt, mj_olt, mj_lto, mj_leo, mj_ole, mj_nIn, mj_nnI, nl_2, nl_3, nl_4, nl_5, nl_6, nl_7, nl_8, nl_9, nl_10, nl_11, nl_12, nl_13, nl_14, nl_15, nl_16, nl_17, nl_18, nl_19, nl_20, nl_21, nl_22, nl_23, nl_24, nl_25, nl_26, nl_27, nl_28, nl_29, nl_30, nl_31, nl_32, nl_33, nl_34, nl_35, nl_36, nl_37, nl_38, nl_39, nl_40, nl_41, nl_42, nl_43, nl_44, nl_45, nl_46, nl_47, nl_48, nl_49, nl_50, nl_51, nl_52, nl_53, nl_54, nl_55, nl_56, nl_57, nl_58, nl_59, nl_60, nl_61, nl_62, nl_63, nl_64, nl_65, nl_66, nl_67, nl_68, nl_69, nl_92, nl_97, nl_99, nl_100, nl_122, nl_127, nl_128, nl_131, nl_132, nl_150, nl_200, nl_255, nl_256, nl_300, nl_342, nl_380, nl_381, nl_400, nl_401, nl_420, nl_500, nl_600, nl_800, nl_999, nl_1000, nl_1023, nl_1024, nl_1200, nl_2048, nl_2100, nl_4096, nl_9999, nl_10000, nl_10240, nl_999999, nl_1000000, if_pos, if_neg, hp, hbb]
          · simp (disch := omega) only [q173_0, q173_12, q173_17, q173_30, q173_42, q173_57, q173_69, q173_81, e173, q172_0, q172_7, q172_15, q172_30, q172_40, q172_43, q172_46, q172_53, q172_54, q172_55, q172_62, q172_70, q172_87, q172_88, q172_91, q172_98, q172_99, e172, s_isIn, s_dlM mN2, s_ltM mL2, eq_self, mj_bi_some, mj_bv_some, mj_bj_some, mj_br_some, mj_r0, mj_r1, mj_q0, mj_q1, mj_b01, mj_q2, if_true, if_false, mj_it, mj_if, true_and, and_true, false_and, and_false, not_true_eq_false, not_false_eq_true, true_or, or_true, false_or, or_false, mj_nIle, mj_nIlt, mj_nIeq, mj_nI0, mj_nIc, mj_nIadd, mj_nIs, mj_ez, mj_ze, mj_eo, mj_ltz, mj_lez, mj_zlt, mj_olt, mj_lto, mj_leo, mj_ole, mj_nIn, mj_nnI, nl_2, nl_3, nl_4, nl_5, nl_6, nl_7, nl_8, nl_9, nl_10, nl_11, nl_12, nl_13, nl_14, nl_15, nl_16, nl_17, nl_18, nl_19, nl_20, nl_21, nl_22, nl_23, nl_24, nl_25, nl_26, nl_27, nl_28, nl_29, nl_30, nl_31, nl_32, nl_33, nl_34, nl_35, nl_36, nl_37, nl_38, nl_39, nl_40, nl_41, nl_42, nl_43, nl_44, nl_45, nl_46, nl_47, nl_48, nl_49, nl_50, nl_51, nl_52, nl_53, nl_54, nl_55, nl_56, nl_57, nl_58, nl_59, nl_60, nl_61, nl_62, nl_63, nl_64, nl_65, nl_66, nl_67, nl_68, nl_69, nl_92, nl_97, nl_99, nl_100, nl_122, nl_127, nl_128, nl_131, nl_132, nl_150, nl_200, nl_255, nl_256, nl_300, nl_342, nl_380, nl_381, nl_400, nl_401, nl_420, nl_500, nl_600, nl_800, nl_999, nl_1000, nl_1023, nl_1024, nl_1200, nl_2048, nl_2100, nl_4096, nl_9999, nl_10000, nl_10240, nl_999999, nl_1000000, if_pos, if_neg, hbb]
    · by_cases hv : (0 ≤ p ∧ p ≤ nI 5) ∧ (0 ≤ b ∧ b < nI l)
      · obtain ⟨hp, hbb⟩ := hv
        obtain ⟨V, hV, rfl⟩ := mj_ofn hp.1
        have hV2 : V ≤ 5 := by have := hp.2; rw [mj_nIle hV (by omega)] at this; exact this
        obtain ⟨k, hk, rfl⟩ := mj_ofn hbb.1
        have hk2 : k < l := by have := hbb.2; rw [mj_nIlt hk (by omega)] at this; exact this
        refine ⟨1, w, c, mj_u (mj_u hi 10 k (nI V)) 91 0 0, hl, mj_u (mj_u (mj_u (mj_u (mj_u hi 10 k (nI V)) 91 0 0) 205 0 0) 211 k (nI V)) 205 3 0, ?_, ?_, iv_set4 q hk2 hV2, hw⟩
        · simp (disch := omega) only [q110_0, q110_19, q110_31, q110_34, q110_36, q110_47, q110_53, q110_59, q110_62, q110_64, q110_96, q110_107, q110_118, q110_129, q110_140, q110_148, q110_155, e110, s_within, s_forget, s_dlX n10 a0, s_ltX l12 a1, lw_E1s, lw_5, E0, E1, E2, E3, E4, eq_self, mj_bi_some, mj_bv_some, mj_bj_some, mj_br_some, mj_r0, mj_r1, mj_q0, mj_q1, mj_b01, mj_q2, if_true, if_false, mj_it, mj_if, true_and, and_true, false_and, and_false, not_true_eq_false, not_false_eq_true, true_or, or_true, false_or, or_false, mj_nIle, mj_nIlt, mj_nIeq, mj_nI0, mj_nIc, mj_nIadd, mj_nIs, mj_ez, mj_ze, mj_eo, mj_ltz, mj_lez, mj_zlt, mj_olt, mj_lto, mj_leo, mj_ole, mj_nIn, mj_nnI, nl_2, nl_3, nl_4, nl_5, nl_6, nl_7, nl_8, nl_9, nl_10, nl_11, nl_12, nl_13, nl_14, nl_15, nl_16, nl_17, nl_18, nl_19, nl_20, nl_21, nl_22, nl_23, nl_24, nl_25, nl_26, nl_27, nl_28, nl_29, nl_30, nl_31, nl_32, nl_33, nl_34, nl_35, nl_36, nl_37, nl_38, nl_39, nl_40, nl_41, nl_42, nl_43, nl_44, nl_45, nl_46, nl_47, nl_48, nl_49, nl_50, nl_51, nl_52, nl_53, nl_54, nl_55, nl_56, nl_57, nl_58, nl_59, nl_60, nl_61, nl_62, nl_63, nl_64, nl_65, nl_66, nl_67, nl_68, nl_69, nl_92, nl_97, nl_99, nl_100, nl_122, nl_127, nl_128, nl_131, nl_132, nl_150, nl_200, nl_255, nl_256, nl_300, nl_342, nl_380, nl_381, nl_400, nl_401, nl_420, nl_500, nl_600, nl_800, nl_999, nl_1000, nl_1023, nl_1024, nl_1200, nl_2048, nl_2100, nl_4096, nl_9999, nl_10000, nl_10240, nl_999999, nl_1000000, if_pos, if_neg, hp, hbb, mj_u_pt, show mj_sw (nI 4) 0 140 [96, 107, 118, 129] = 140 from rfl]
        · have mN2 : (mj_u (mj_u (mj_u hi 10 k (nI V)) 91 0 0) 205 0 0) 205 6 = nI n := by simp (disch := omega) only [mj_u_pt]; exact mN
          have mL2 : (mj_u (mj_u (mj_u hi 10 k (nI V)) 91 0 0) 205 0 0) 205 7 = nI l := by simp (disch := omega) only [mj_u_pt]; exact mL
          simp (disch := omega) only [q173_0, q173_12, q173_17, q173_30, q173_42, q173_57, q173_69, q173_81, e173, q172_0, q172_7, q172_15, q172_30, q172_40, q172_43, q172_46, q172_53, q172_54, q172_55, q172_62, q172_70, q172_87, q172_88, q172_91, q172_98, q172_99, e172, s_isIn, s_dlM mN2, s_ltM mL2, eq_self, mj_bi_some, mj_bv_some, mj_bj_some, mj_br_some, mj_r0, mj_r1, mj_q0, mj_q1, mj_b01, mj_q2, if_true, if_false, mj_it, mj_if, true_and, and_true, false_and, and_false, not_true_eq_false, not_false_eq_true, true_or, or_true, false_or, or_false, mj_nIle, mj_nIlt, mj_nIeq, mj_nI0, mj_nIc, mj_nIadd, mj_nIs, mj_ez, mj_ze, mj_eo, mj_ltz, mj_lez, mj_zlt, mj_olt, mj_lto, mj_leo, mj_ole, mj_nIn, mj_nnI, nl_2, nl_3, nl_4, nl_5, nl_6, nl_7, nl_8, nl_9, nl_10, nl_11, nl_12, nl_13, nl_14, nl_15, nl_16, nl_17, nl_18, nl_19, nl_20, nl_21, nl_22, nl_23, nl_24, nl_25, nl_26, nl_27, nl_28, nl_29, nl_30, nl_31, nl_32, nl_33, nl_34, nl_35, nl_36, nl_37, nl_38, nl_39, nl_40, nl_41, nl_42, nl_43, nl_44, nl_45, nl_46, nl_47, nl_48, nl_49, nl_50, nl_51, nl_52, nl_53, nl_54, nl_55, nl_56, nl_57, nl_58, nl_59, nl_60, nl_61, nl_62, nl_63, nl_64, nl_65, nl_66, nl_67, nl_68, nl_69, nl_92, nl_97, nl_99, nl_100, nl_122, nl_127, nl_128, nl_131, nl_132, nl_150, nl_200, nl_255, nl_256, nl_300, nl_342, nl_380, nl_381, nl_400, nl_401, nl_420, nl_500, nl_600, nl_800, nl_999, nl_1000, nl_1023, nl_1024, nl_1200, nl_2048, nl_2100, nl_4096, nl_9999, nl_10000, nl_10240, nl_999999, nl_1000000, if_pos, if_neg, hp, hbb]
      · refine ⟨0, w, c, hi, hl, mj_u hi 205 0 0, ?_, ?_, iv_told q, hw⟩
        · by_cases hp : 0 ≤ p ∧ p ≤ nI 5
          · have hbb : ¬ (0 ≤ b ∧ b < nI l) := fun z => hv ⟨hp, z⟩
            simp (disch := omega) only [q110_0, q110_19, q110_31, q110_34, q110_36, q110_47, q110_53, q110_59, q110_62, q110_64, q110_96, q110_107, q110_118, q110_129, q110_140, q110_148, q110_155, e110, s_within, s_dlX n10 a0, s_ltX l12 a1, lw_E1s, lw_5, E0, E1, E2, E3, E4, eq_self, mj_bi_some, mj_bv_some, mj_bj_some, mj_br_some, mj_r0, mj_r1, mj_q0, mj_q1, mj_b01, mj_q2, if_true, if_false, mj_it, mj_if, true_and, and_true, false_and, and_false, not_true_eq_false, not_false_eq_true, true_or, or_true, false_or, or_false, mj_nIle, mj_nIlt, mj_nIeq, mj_nI0, mj_nIc, mj_nIadd, mj_nIs, mj_ez, mj_ze, mj_eo, mj_ltz, mj_lez, mj_zlt, mj_olt, mj_lto, mj_leo, mj_ole, mj_nIn, mj_nnI, nl_2, nl_3, nl_4, nl_5, nl_6, nl_7, nl_8, nl_9, nl_10, nl_11, nl_12, nl_13, nl_14, nl_15, nl_16, nl_17, nl_18, nl_19, nl_20, nl_21, nl_22, nl_23, nl_24, nl_25, nl_26, nl_27, nl_28, nl_29, nl_30, nl_31, nl_32, nl_33, nl_34, nl_35, nl_36, nl_37, nl_38, nl_39, nl_40, nl_41, nl_42, nl_43, nl_44, nl_45, nl_46, nl_47, nl_48, nl_49, nl_50, nl_51, nl_52, nl_53, nl_54, nl_55, nl_56, nl_57, nl_58, nl_59, nl_60, nl_61, nl_62, nl_63, nl_64, nl_65, nl_66, nl_67, nl_68, nl_69, nl_92, nl_97, nl_99, nl_100, nl_122, nl_127, nl_128, nl_131, nl_132, nl_150, nl_200, nl_255, nl_256, nl_300, nl_342, nl_380, nl_381, nl_400, nl_401, nl_420, nl_500, nl_600, nl_800, nl_999, nl_1000, nl_1023, nl_1024, nl_1200, nl_2048, nl_2100, nl_4096, nl_9999, nl_10000, nl_10240, nl_999999, nl_1000000, if_pos, if_neg, hp, hbb]
          · simp (disch := omega) only [q110_0, q110_19, q110_31, q110_34, q110_36, q110_47, q110_53, q110_59, q110_62, q110_64, q110_96, q110_107, q110_118, q110_129, q110_140, q110_148, q110_155, e110, s_within, lw_E1s, lw_5, E0, E1, E2, E3, E4, eq_self, mj_bi_some, mj_bv_some, mj_bj_some, mj_br_some, mj_r0, mj_r1, mj_q0, mj_q1, mj_b01, mj_q2, if_true, if_false, mj_it, mj_if, true_and, and_true, false_and, and_false, not_true_eq_false, not_false_eq_true, true_or, or_true, false_or, or_false, mj_nIle, mj_nIlt, mj_nIeq, mj_nI0, mj_nIc, mj_nIadd, mj_nIs, mj_ez, mj_ze, mj_eo, mj_ltz, mj_lez, mj_zlt, mj_olt, mj_lto, mj_leo, mj_ole, mj_nIn, mj_nnI, nl_2, nl_3, nl_4, nl_5, nl_6, nl_7, nl_8, nl_9, nl_10, nl_11, nl_12, nl_13, nl_14, nl_15, nl_16, nl_17, nl_18, nl_19, nl_20, nl_21, nl_22, nl_23, nl_24, nl_25, nl_26, nl_27, nl_28, nl_29, nl_30, nl_31, nl_32, nl_33, nl_34, nl_35, nl_36, nl_37, nl_38, nl_39, nl_40, nl_41, nl_42, nl_43, nl_44, nl_45, nl_46, nl_47, nl_48, nl_49, nl_50, nl_51, nl_52, nl_53, nl_54, nl_55, nl_56, nl_57, nl_58, nl_59, nl_60, nl_61, nl_62, nl_63, nl_64, nl_65, nl_66, nl_67, nl_68, nl_69, nl_92, nl_97, nl_99, nl_100, nl_122, nl_127, nl_128, nl_131, nl_132, nl_150, nl_200, nl_255, nl_256, nl_300, nl_342, nl_380, nl_381, nl_400, nl_401, nl_420, nl_500, nl_600, nl_800, nl_999, nl_1000, nl_1023, nl_1024, nl_1200, nl_2048, nl_2100, nl_4096, nl_9999, nl_10000, nl_10240, nl_999999, nl_1000000, if_pos, if_neg, hp]
        · have mN2 : (mj_u hi 205 0 0) 205 6 = nI n := by simp (disch := omega) only [mj_u_pt]; exact mN
          have mL2 : (mj_u hi 205 0 0) 205 7 = nI l := by simp (disch := omega) only [mj_u_pt]; exact mL
          by_cases hbb : 0 ≤ b ∧ b < nI l
          · have hp : ¬ (0 ≤ p ∧ p ≤ nI 5) := fun z => hv ⟨z, hbb⟩
            simp (disch := omega) only [q173_0, q173_12, q173_17, q173_30, q173_42, q173_57, q173_69, q173_81, e173, q172_0, q172_7, q172_15, q172_30, q172_40, q172_43, q172_46, q172_53, q172_54, q172_55, q172_62, q172_70, q172_87, q172_88, q172_91, q172_98, q172_99, e172, s_isIn, s_dlM mN2, s_ltM mL2, eq_self, mj_bi_some, mj_bv_some, mj_bj_some, mj_br_some, mj_r0, mj_r1, mj_q0, mj_q1, mj_b01, mj_q2, if_true, if_false, mj_it, mj_if, true_and, and_true, false_and, and_false, not_true_eq_false, not_false_eq_true, true_or, or_true, false_or, or_false, mj_nIle, mj_nIlt, mj_nIeq, mj_nI0, mj_nIc, mj_nIadd, mj_nIs, mj_ez, mj_ze, mj_eo, mj_ltz, mj_lez, mj_zlt, mj_olt, mj_lto, mj_leo, mj_ole, mj_nIn, mj_nnI, nl_2, nl_3, nl_4, nl_5, nl_6, nl_7, nl_8, nl_9, nl_10, nl_11, nl_12, nl_13, nl_14, nl_15, nl_16, nl_17, nl_18, nl_19, nl_20, nl_21, nl_22, nl_23, nl_24, nl_25, nl_26, nl_27, nl_28, nl_29, nl_30, nl_31, nl_32, nl_33, nl_34, nl_35, nl_36, nl_37, nl_38, nl_39, nl_40, nl_41, nl_42, nl_43, nl_44, nl_45, nl_46, nl_47, nl_48, nl_49, nl_50, nl_51, nl_52, nl_53, nl_54, nl_55, nl_56, nl_57, nl_58, nl_59, nl_60, nl_61, nl_62, nl_63, nl_64, nl_65, nl_66, nl_67, nl_68, nl_69, nl_92, nl_97, nl_99, nl_100, nl_122, nl_127, nl_128, nl_131, nl_132, nl_150, nl_200, nl_255, nl_256, nl_300, nl_342, nl_380, nl_381, nl_400, nl_401, nl_420, nl_500, nl_600, nl_800, nl_999, nl_1000, nl_1023, nl_1024, nl_1200, nl_2048, nl_2100, nl_4096, nl_9999, nl_10000, nl_10240, nl_999999, nl_1000000, if_pos, if_neg, hp, hbb]
          · simp (disch := omega) only [q173_0, q173_12, q173_17, q173_30, q173_42, q173_57, q173_69, q173_81, e173, q172_0, q172_7, q172_15, q172_30, q172_40, q172_43, q172_46, q172_53, q172_54, q172_55, q172_62, q172_70, q172_87, q172_88, q172_91, q172_98, q172_99, e172, s_isIn, s_dlM mN2, s_ltM mL2, eq_self, mj_bi_some, mj_bv_some, mj_bj_some, mj_br_some, mj_r0, mj_r1, mj_q0, mj_q1, mj_b01, mj_q2, if_true, if_false, mj_it, mj_if, true_and, and_true, false_and, and_false, not_true_eq_false, not_false_eq_true, true_or, or_true, false_or, or_false, mj_nIle, mj_nIlt, mj_nIeq, mj_nI0, mj_nIc, mj_nIadd, mj_nIs, mj_ez, mj_ze, mj_eo, mj_ltz, mj_lez, mj_zlt, mj_olt, mj_lto, mj_leo, mj_ole, mj_nIn, mj_nnI, nl_2, nl_3, nl_4, nl_5, nl_6, nl_7, nl_8, nl_9, nl_10, nl_11, nl_12, nl_13, nl_14, nl_15, nl_16, nl_17, nl_18, nl_19, nl_20, nl_21, nl_22, nl_23, nl_24, nl_25, nl_26, nl_27, nl_28, nl_29, nl_30, nl_31, nl_32, nl_33, nl_34, nl_35, nl_36, nl_37, nl_38, nl_39, nl_40, nl_41, nl_42, nl_43, nl_44, nl_45, nl_46, nl_47, nl_48, nl_49, nl_50, nl_51, nl_52, nl_53, nl_54, nl_55, nl_56, nl_57, nl_58, nl_59, nl_60, nl_61, nl_62, nl_63, nl_64, nl_65, nl_66, nl_67, nl_68, nl_69, nl_92, nl_97, nl_99, nl_100, nl_122, nl_127, nl_128, nl_131, nl_132, nl_150, nl_200, nl_255, nl_256, nl_300, nl_342, nl_380, nl_381, nl_400, nl_401, nl_420, nl_500, nl_600, nl_800, nl_999, nl_1000, nl_1023, nl_1024, nl_1200, nl_2048, nl_2100, nl_4096, nl_9999, nl_10000, nl_10240, nl_999999, nl_1000000, if_pos, if_neg, hbb]
  · have ha2 : ¬ (0 ≤ a ∧ a ≤ nI 2) := fun z => ha ⟨z.1, Int32.le_trans z.2 (by decide)⟩
    have ha3 : ¬ (nI 3 ≤ a ∧ a ≤ nI 4) := fun z => ha ⟨Int32.le_trans (by decide) z.1, z.2⟩
    refine ⟨0, w, c, hi, hl, mj_u hi 205 0 0, ?_, ?_, iv_told q, hw⟩
    · simp (disch := omega) only [q110_0, q110_19, q110_31, q110_34, q110_36, q110_47, q110_53, q110_59, q110_62, q110_64, q110_96, q110_107, q110_118, q110_129, q110_140, q110_148, q110_155, e110, s_within, lw_E1s, lw_5, eq_self, mj_bi_some, mj_bv_some, mj_bj_some, mj_br_some, mj_r0, mj_r1, mj_q0, mj_q1, mj_b01, mj_q2, if_true, if_false, mj_it, mj_if, true_and, and_true, false_and, and_false, not_true_eq_false, not_false_eq_true, true_or, or_true, false_or, or_false, mj_nIle, mj_nIlt, mj_nIeq, mj_nI0, mj_nIc, mj_nIadd, mj_nIs, mj_ez, mj_ze, mj_eo, mj_ltz, mj_lez, mj_zlt, mj_olt, mj_lto, mj_leo, mj_ole, mj_nIn, mj_nnI, nl_2, nl_3, nl_4, nl_5, nl_6, nl_7, nl_8, nl_9, nl_10, nl_11, nl_12, nl_13, nl_14, nl_15, nl_16, nl_17, nl_18, nl_19, nl_20, nl_21, nl_22, nl_23, nl_24, nl_25, nl_26, nl_27, nl_28, nl_29, nl_30, nl_31, nl_32, nl_33, nl_34, nl_35, nl_36, nl_37, nl_38, nl_39, nl_40, nl_41, nl_42, nl_43, nl_44, nl_45, nl_46, nl_47, nl_48, nl_49, nl_50, nl_51, nl_52, nl_53, nl_54, nl_55, nl_56, nl_57, nl_58, nl_59, nl_60, nl_61, nl_62, nl_63, nl_64, nl_65, nl_66, nl_67, nl_68, nl_69, nl_92, nl_97, nl_99, nl_100, nl_122, nl_127, nl_128, nl_131, nl_132, nl_150, nl_200, nl_255, nl_256, nl_300, nl_342, nl_380, nl_381, nl_400, nl_401, nl_420, nl_500, nl_600, nl_800, nl_999, nl_1000, nl_1023, nl_1024, nl_1200, nl_2048, nl_2100, nl_4096, nl_9999, nl_10000, nl_10240, nl_999999, nl_1000000, if_pos, if_neg, ha]
    · simp (disch := omega) only [q173_0, q173_12, q173_17, q173_30, q173_42, q173_57, q173_69, q173_81, e173, q172_0, q172_7, q172_15, q172_30, q172_40, q172_43, q172_46, q172_53, q172_54, q172_55, q172_62, q172_70, q172_87, q172_88, q172_91, q172_98, q172_99, e172, s_isIn, eq_self, mj_bi_some, mj_bv_some, mj_bj_some, mj_br_some, mj_r0, mj_r1, mj_q0, mj_q1, mj_b01, mj_q2, if_true, if_false, mj_it, mj_if, true_and, and_true, false_and, and_false, not_true_eq_false, not_false_eq_true, true_or, or_true, false_or, or_false, mj_nIle, mj_nIlt, mj_nIeq, mj_nI0, mj_nIc, mj_nIadd, mj_nIs, mj_ez, mj_ze, mj_eo, mj_ltz, mj_lez, mj_zlt, mj_olt, mj_lto, mj_leo, mj_ole, mj_nIn, mj_nnI, nl_2, nl_3, nl_4, nl_5, nl_6, nl_7, nl_8, nl_9, nl_10, nl_11, nl_12, nl_13, nl_14, nl_15, nl_16, nl_17, nl_18, nl_19, nl_20, nl_21, nl_22, nl_23, nl_24, nl_25, nl_26, nl_27, nl_28, nl_29, nl_30, nl_31, nl_32, nl_33, nl_34, nl_35, nl_36, nl_37, nl_38, nl_39, nl_40, nl_41, nl_42, nl_43, nl_44, nl_45, nl_46, nl_47, nl_48, nl_49, nl_50, nl_51, nl_52, nl_53, nl_54, nl_55, nl_56, nl_57, nl_58, nl_59, nl_60, nl_61, nl_62, nl_63, nl_64, nl_65, nl_66, nl_67, nl_68, nl_69, nl_92, nl_97, nl_99, nl_100, nl_122, nl_127, nl_128, nl_131, nl_132, nl_150, nl_200, nl_255, nl_256, nl_300, nl_342, nl_380, nl_381, nl_400, nl_401, nl_420, nl_500, nl_600, nl_800, nl_999, nl_1000, nl_1023, nl_1024, nl_1200, nl_2048, nl_2100, nl_4096, nl_9999, nl_10000, nl_10240, nl_999999, nl_1000000, if_pos, if_neg, ha2, ha3]
