/-! state, dealer, lot, set -/
theorem cs_state (v : Int32) : mj_Cs 107 162 [.int v] := by
  intro E d w c hi hl hE hw hI
  obtain ⟨n, l, q⟩ := iv_I_un.mp hI
  obtain ⟨n10, l12, mN, mL⟩ := iv_Jn q
  obtain ⟨⟨a0, a1, a2, a3, a4, a5, a6⟩, hb, x3, x4, x5, x6, x7⟩ := iv_JX q
  refine ⟨hi 2 5, w, c, mj_u (mj_u hi 2 5 v) 91 0 0, hl, mj_u (mj_u (mj_u (mj_u (mj_u hi 2 5 v) 91 0 0) 205 0 0) 206 1 v) 205 3 0, ?_, ?_, ?_, hw⟩
  · rw [e107, q107_0, s_forget, mj_bv_some, q107_29]
  · rw [e162, q162_0]
    rw [if_pos (show (0 : Int32) ≤ 1 ∧ (1 : Int32).toNatClampNeg < 57 by decide), if_pos (show (0 : Int32) ≤ 1 ∧ (1 : Int32).toNatClampNeg < 57 by decide), show (1 : Int32).toNatClampNeg = 1 from rfl]
    simp (disch := omega) only [mj_u_pt]
    rw [a5]
  · refine iv_two (n := n) (l := l) (h := mj_u (mj_u hi 2 5 v) 91 0 0) (m := mj_u (mj_u (mj_u hi 205 0 0) 206 1 v) 205 3 0) (fun a k h => ?_) (fun a k h1 h2 => ?_) ?_
    · simp (disch := omega) only [mj_u_pt]
    · unfold mj_u; simp only []; repeat' split
      all_goals first | rfl | omega
    · refine iv_J_room q (Nat.le_refl _) (Nat.le_refl _) n10 l12 (fun a k h => ?_) (fun a k h => ?_) (fun k h => ?_) ?_ ?_ ?_ ?_ ?_ ?_
      · simp (disch := omega) only [mj_u_pt]
      · simp (disch := omega) only [mj_u_pt]
      · simp (disch := omega) only [mj_u_pt]
      · simp (disch := omega) only [mj_u_pt]; exact mN
      · simp (disch := omega) only [mj_u_pt]; exact mL
      · refine ⟨⟨?_, ?_, ?_, ?_, ?_, ?_, ?_⟩, ?_, ?_, ?_, ?_, ?_, ?_⟩
        · simp (disch := omega) only [mj_u_pt]; exact a0
        · simp (disch := omega) only [mj_u_pt]; exact a1
        · simp (disch := omega) only [mj_u_pt]; exact a2
        · simp (disch := omega) only [mj_u_pt]; exact a3
        · simp (disch := omega) only [mj_u_pt]; exact a4
        · simp (disch := omega) only [mj_u_pt, mj_u_eq]
        · simp (disch := omega) only [mj_u_pt]; exact a6
        · simp (disch := omega) only [mj_u_pt]; exact hb
        · intro d hd; simp (disch := omega) only [mj_u_pt]; exact x3 d hd
        · intro d hd; simp (disch := omega) only [mj_u_pt]; exact x4 d hd
        · intro k hk; simp (disch := omega) only [mj_u_pt]; exact x5 k hk
        · intro k hk; simp (disch := omega) only [mj_u_pt]; exact x6 k hk
        · intro d hd; simp (disch := omega) only [mj_u_pt]; exact x7 d hd
      · intro k hk; simp (disch := omega) only [mj_u_pt]; exact iv_JWo q k hk
      · exact iv_B_congr (iv_JB q) (fun a k h1 h2 => by simp (disch := omega) only [mj_u_pt]) (fun k => by simp (disch := omega) only [mj_u_pt])
      · exact iv_P2_0 q.2.1 (by simp (disch := omega) only [mj_u_pt, mj_u_eq]) (by simp (disch := omega) only [mj_u_pt, mj_u_eq]) (by simp (disch := omega) only [mj_u_pt])
/-- the reference has set told to 0, no more -/
theorem iv_told {n l : Nat} {h : mj_HI} (q : iv_J n l h h) : iv_I (mj_u h 205 0 0) (mj_u h 205 0 0) :=
  iv_J_same q (fun a k _ => by simp (disch := omega) only [mj_u_pt]) (fun a k _ => by simp (disch := omega) only [mj_u_pt]) (fun k _ => by simp (disch := omega) only [mj_u_pt])
theorem iv_cnt_zero {p : Nat → Bool} {n : Nat} (h : ∀ i, i < n → p i = false) : iv_cnt p n = 0 := by
  induction n with
  | zero => rfl
  | succ n ih => unfold iv_cnt; rw [ih (fun i hi => h i (by omega)), h n (by omega)]; rfl
theorem cs_dealer (a b p bl : Int32) : mj_Cs 108 170 [.int a, .int b, .int p, .int bl] := by
  intro E d w c hi hl hE hw hI
  obtain ⟨n, l, q⟩ := iv_I_un.mp hI
  obtain ⟨n10, l12, mN, mL⟩ := iv_Jn q
  obtain ⟨⟨a0, a1, a2, a3, a4, a5, a6⟩, hb, x3, x4, x5, x6, x7⟩ := iv_JX q
  by_cases hv : (0 ≤ a ∧ a ≤ nI 99) ∧ (0 ≤ b ∧ b ≤ nI 9) ∧ (0 ≤ p ∧ p ≤ nI 9999) ∧ n < 10
  · obtain ⟨v1, v2, v3, v4⟩ := hv
    obtain ⟨P, hP, rfl⟩ := mj_ofn v3.1
    have hP2 : P ≤ 9999 := by have := v3.2; rw [mj_nIle hP (by omega)] at this; exact this
    refine ⟨nI n, w, c, mj_u (mj_u (mj_u (mj_u (mj_u (mj_u (mj_u (mj_u (mj_u hi 91 0 0) 3 n a) 4 n b) 5 n (nI P)) 6 n (if bl = 0 then 0 else 1)) 7 n 0) 8 n 0) 9 n 0) 2 0 (nI (n + 1)), hl, mj_u (mj_u (mj_u (mj_u (mj_u (mj_u (mj_u (mj_u (mj_u (mj_u (mj_u (mj_u (mj_u (mj_u (mj_u (mj_u (mj_u (mj_u hi 91 0 0) 3 n a) 4 n b) 5 n (nI P)) 6 n (if bl = 0 then 0 else 1)) 7 n 0) 8 n 0) 9 n 0) 2 0 (nI (n + 1))) 205 0 0) 206 (5 + n) a) 206 (15 + n) (nI P)) 206 (25 + n) 0) 206 (35 + n) 0) 209 n b) 210 n (if bl = 0 then 0 else 1)) 205 6 (nI (n + 1))) 205 3 0, ?_, ?_, ?_, hw⟩
    · by_cases hbl : bl = 0
      · simp (disch := omega) only [q108_0, q108_6, q108_15, q108_25, q108_32, q108_33, q108_55, q108_57, q108_64, q108_83, q108_84, q108_87, e108, q72_0, q72_18, q72_20, e72, s_within, s_forget, eq_self, mj_bi_some, mj_bv_some, mj_bj_some, mj_br_some, mj_r0, mj_r1, mj_q0, mj_q1, mj_b01, mj_q2, if_true, if_false, mj_it, mj_if, true_and, and_true, false_and, and_false, not_true_eq_false, not_false_eq_true, true_or, or_true, false_or, or_false, mj_nIle, mj_nIlt, mj_nIeq, mj_nI0, mj_nIc, mj_nIadd, mj_nIs, mj_ez, mj_ze, mj_eo, mj_ltz, mj_lez, mj_zlt, mj_olt, mj_lto, mj_leo, mj_ole, mj_nIn, mj_nnI, nl_2, nl_3, nl_4, nl_5, nl_6, nl_7, nl_8, nl_9, nl_10, nl_11, nl_12, nl_13, nl_14, nl_15, nl_16, nl_17, nl_18, nl_19, nl_20, nl_21, nl_22, nl_23, nl_24, nl_25, nl_26, nl_27, nl_28, nl_29, nl_30, nl_31, nl_32, nl_33, nl_34, nl_35, nl_36, nl_37, nl_38, nl_39, nl_40, nl_41, nl_42, nl_43, nl_44, nl_45, nl_46, nl_47, nl_48, nl_49, nl_50, nl_51, nl_52, nl_53, nl_54, nl_55, nl_56, nl_57, nl_58, nl_59, nl_60, nl_61, nl_62, nl_63, nl_64, nl_65, nl_66, nl_67, nl_68, nl_69, nl_92, nl_97, nl_99, nl_100, nl_122, nl_127, nl_128, nl_131, nl_132, nl_150, nl_200, nl_255, nl_256, nl_300, nl_342, nl_380, nl_381, nl_400, nl_401, nl_420, nl_500, nl_600, nl_800, nl_999, nl_1000, nl_1023, nl_1024, nl_1200, nl_2048, nl_2100, nl_4096, nl_9999, nl_10000, nl_10240, nl_999999, nl_1000000, if_pos, if_neg, v1, v2, v3, hbl, a0, mj_u_pt]
      · simp (disch := omega) only [q108_0, q108_6, q108_15, q108_25, q108_32, q108_33, q108_55, q108_57, q108_64, q108_83, q108_84, q108_87, e108, q72_0, q72_18, q72_20, e72, s_within, s_forget, eq_self, mj_bi_some, mj_bv_some, mj_bj_some, mj_br_some, mj_r0, mj_r1, mj_q0, mj_q1, mj_b01, mj_q2, if_true, if_false, mj_it, mj_if, true_and, and_true, false_and, and_false, not_true_eq_false, not_false_eq_true, true_or, or_true, false_or, or_false, mj_nIle, mj_nIlt, mj_nIeq, mj_nI0, mj_nIc, mj_nIadd, mj_nIs, mj_ez, mj_ze, mj_eo, mj_ltz, mj_lez, mj_zlt, mj_olt, mj_lto, mj_leo, mj_ole, mj_nIn, mj_nnI, nl_2, nl_3, nl_4, nl_5, nl_6, nl_7, nl_8, nl_9, nl_10, nl_11, nl_12, nl_13, nl_14, nl_15, nl_16, nl_17, nl_18, nl_19, nl_20, nl_21, nl_22, nl_23, nl_24, nl_25, nl_26, nl_27, nl_28, nl_29, nl_30, nl_31, nl_32, nl_33, nl_34, nl_35, nl_36, nl_37, nl_38, nl_39, nl_40, nl_41, nl_42, nl_43, nl_44, nl_45, nl_46, nl_47, nl_48, nl_49, nl_50, nl_51, nl_52, nl_53, nl_54, nl_55, nl_56, nl_57, nl_58, nl_59, nl_60, nl_61, nl_62, nl_63, nl_64, nl_65, nl_66, nl_67, nl_68, nl_69, nl_92, nl_97, nl_99, nl_100, nl_122, nl_127, nl_128, nl_131, nl_132, nl_150, nl_200, nl_255, nl_256, nl_300, nl_342, nl_380, nl_381, nl_400, nl_401, nl_420, nl_500, nl_600, nl_800, nl_999, nl_1000, nl_1023, nl_1024, nl_1200, nl_2048, nl_2100, nl_4096, nl_9999, nl_10000, nl_10240, nl_999999, nl_1000000, if_pos, if_neg, v1, v2, v3, hbl, a0, mj_u_pt]
    · by_cases hbl : bl = 0
      · simp (disch := omega) only [q170_0, q170_13, q170_24, q170_36, q170_48, q170_50, q170_122, q170_123, e170, s_isIn, eq_self, mj_bi_some, mj_bv_some, mj_bj_some, mj_br_some, mj_r0, mj_r1, mj_q0, mj_q1, mj_b01, mj_q2, if_true, if_false, mj_it, mj_if, true_and, and_true, false_and, and_false, not_true_eq_false, not_false_eq_true, true_or, or_true, false_or, or_false, mj_nIle, mj_nIlt, mj_nIeq, mj_nI0, mj_nIc, mj_nIadd, mj_nIs, mj_ez, mj_ze, mj_eo, mj_ltz, mj_lez, mj_zlt, mj_olt, mj_lto, mj_leo, mj_ole, mj_nIn, mj_nnI, nl_2, nl_3, nl_4, nl_5, nl_6, nl_7, nl_8, nl_9, nl_10, nl_11, nl_12, nl_13, nl_14, nl_15, nl_16, nl_17, nl_18, nl_19, nl_20, nl_21, nl_22, nl_23, nl_24, nl_25, nl_26, nl_27, nl_28, nl_29, nl_30, nl_31, nl_32, nl_33, nl_34, nl_35, nl_36, nl_37, nl_38, nl_39, nl_40, nl_41, nl_42, nl_43, nl_44, nl_45, nl_46, nl_47, nl_48, nl_49, nl_50, nl_51, nl_52, nl_53, nl_54, nl_55, nl_56, nl_57, nl_58, nl_59, nl_60, nl_61, nl_62, nl_63, nl_64, nl_65, nl_66, nl_67, nl_68, nl_69, nl_92, nl_97, nl_99, nl_100, nl_122, nl_127, nl_128, nl_131, nl_132, nl_150, nl_200, nl_255, nl_256, nl_300, nl_342, nl_380, nl_381, nl_400, nl_401, nl_420, nl_500, nl_600, nl_800, nl_999, nl_1000, nl_1023, nl_1024, nl_1200, nl_2048, nl_2100, nl_4096, nl_9999, nl_10000, nl_10240, nl_999999, nl_1000000, if_pos, if_neg, v1, v2, v3, hbl, mN, mj_u_pt]
      · simp (disch := omega) only [q170_0, q170_13, q170_24, q170_36, q170_48, q170_50, q170_122, q170_123, e170, s_isIn, eq_self, mj_bi_some, mj_bv_some, mj_bj_some, mj_br_some, mj_r0, mj_r1, mj_q0, mj_q1, mj_b01, mj_q2, if_true, if_false, mj_it, mj_if, true_and, and_true, false_and, and_false, not_true_eq_false, not_false_eq_true, true_or, or_true, false_or, or_false, mj_nIle, mj_nIlt, mj_nIeq, mj_nI0, mj_nIc, mj_nIadd, mj_nIs, mj_ez, mj_ze, mj_eo, mj_ltz, mj_lez, mj_zlt, mj_olt, mj_lto, mj_leo, mj_ole, mj_nIn, mj_nnI, nl_2, nl_3, nl_4, nl_5, nl_6, nl_7, nl_8, nl_9, nl_10, nl_11, nl_12, nl_13, nl_14, nl_15, nl_16, nl_17, nl_18, nl_19, nl_20, nl_21, nl_22, nl_23, nl_24, nl_25, nl_26, nl_27, nl_28, nl_29, nl_30, nl_31, nl_32, nl_33, nl_34, nl_35, nl_36, nl_37, nl_38, nl_39, nl_40, nl_41, nl_42, nl_43, nl_44, nl_45, nl_46, nl_47, nl_48, nl_49, nl_50, nl_51, nl_52, nl_53, nl_54, nl_55, nl_56, nl_57, nl_58, nl_59, nl_60, nl_61, nl_62, nl_63, nl_64, nl_65, nl_66, nl_67, nl_68, nl_69, nl_92, nl_97, nl_99, nl_100, nl_122, nl_127, nl_128, nl_131, nl_132, nl_150, nl_200, nl_255, nl_256, nl_300, nl_342, nl_380, nl_381, nl_400, nl_401, nl_420, nl_500, nl_600, nl_800, nl_999, nl_1000, nl_1023, nl_1024, nl_1200, nl_2048, nl_2100, nl_4096, nl_9999, nl_10000, nl_10240, nl_999999, nl_1000000, if_pos, if_neg, v1, v2, v3, hbl, mN, mj_u_pt]
    · refine iv_two (n := n + 1) (l := l) (h := mj_u (mj_u (mj_u (mj_u (mj_u (mj_u (mj_u (mj_u (mj_u hi 91 0 0) 3 n a) 4 n b) 5 n (nI P)) 6 n (if bl = 0 then 0 else 1)) 7 n 0) 8 n 0) 9 n 0) 2 0 (nI (n + 1))) (m := mj_u (mj_u (mj_u (mj_u (mj_u (mj_u (mj_u (mj_u (mj_u hi 205 0 0) 206 (5 + n) a) 206 (15 + n) (nI P)) 206 (25 + n) 0) 206 (35 + n) 0) 209 n b) 210 n (if bl = 0 then 0 else 1)) 205 6 (nI (n + 1))) 205 3 0) (fun a k h => ?_) (fun a k h1 h2 => ?_) ?_
      · simp (disch := omega) only [mj_u_pt]
      · simp only [mj_u]
        repeat' split
        all_goals first | rfl | omega
      · refine iv_J_room q (by omega) (Nat.le_refl _) (by omega) l12 (fun a k h => ?_) (fun a k h => ?_) (fun k h => ?_) ?_ ?_ ?_ ?_ ?_ ?_
        · simp (disch := omega) only [mj_u_pt]
        · simp (disch := omega) only [mj_u_pt]
        · simp (disch := omega) only [mj_u_pt]
        · simp (disch := omega) only [mj_u_pt, mj_u_eq]
        · simp (disch := omega) only [mj_u_pt]; exact mL
        · refine ⟨⟨?_, ?_, ?_, ?_, ?_, ?_, ?_⟩, ?_, ?_, ?_, ?_, ?_, ?_⟩
          · simp (disch := omega) only [mj_u_pt, mj_u_eq]
          · simp (disch := omega) only [mj_u_pt]; exact a1
          · simp (disch := omega) only [mj_u_pt]; exact a2
          · simp (disch := omega) only [mj_u_pt]; exact a3
          · simp (disch := omega) only [mj_u_pt]; exact a4
          · simp (disch := omega) only [mj_u_pt]; exact a5
          · simp (disch := omega) only [mj_u_pt]; exact a6
          · simp (disch := omega) only [mj_u_pt]; exact hb
          · intro d hd
            obtain ⟨y1, y2, y3, y4, y5, y6⟩ := x3 d hd
            by_cases hdn : d = n
            · subst hdn; simp (disch := omega) only [mj_u_pt, mj_u_eq, and_self]
            · simp (disch := omega) only [mj_u_pt]; exact ⟨y1, y2, y3, y4, y5, y6⟩
          · intro d hd
            by_cases hdn : d = n
            · subst hdn; simp (disch := omega) only [mj_u_pt, mj_u_eq]
              rw [iv_cnt_zero]; rfl
              intro i hi'
              obtain ⟨_, s, hs, e⟩ := x6 i hi'
              rw [e, decide_eq_false_iff_not, mj_nIeq (by omega) (by omega)]; omega
            · simp (disch := omega) only [mj_u_pt]; exact x4 d (by omega)
          · intro k hk; simp (disch := omega) only [mj_u_pt]; exact x5 k hk
          · intro k hk; simp (disch := omega) only [mj_u_pt]
            obtain ⟨y1, s, hs, e⟩ := x6 k hk
            exact ⟨y1, s, by omega, e⟩
          · intro d hd
            by_cases hdn : d = n
            · subst hdn; refine ⟨P, hP2, ?_⟩; simp (disch := omega) only [mj_u_pt, mj_u_eq]
            · simp (disch := omega) only [mj_u_pt]; exact x7 d (by omega)
        · intro k hk; simp (disch := omega) only [mj_u_pt]; exact iv_JWo q k hk
        · exact iv_B_congr (iv_JB q) (fun a k h1 h2 => by simp (disch := omega) only [mj_u_pt]) (fun k => by simp (disch := omega) only [mj_u_pt])
        · exact iv_P2_0 q.2.1 (by simp (disch := omega) only [mj_u_pt, mj_u_eq]) (by simp (disch := omega) only [mj_u_pt, mj_u_eq]) (by simp (disch := omega) only [mj_u_pt])
  · refine ⟨-1, w, c, hi, hl, mj_u hi 205 0 0, ?_, ?_, iv_told q, hw⟩
    · by_cases v1 : 0 ≤ a ∧ a ≤ nI 99
      · by_cases v2 : 0 ≤ b ∧ b ≤ nI 9
        · by_cases v3 : 0 ≤ p ∧ p ≤ nI 9999
          · have v4 : ¬ n < 10 := fun z => hv ⟨v1, v2, v3, z⟩
            simp (disch := omega) only [q108_0, q108_6, q108_15, q108_25, q108_32, q108_33, q108_55, q108_57, q108_64, q108_83, q108_84, q108_87, e108, s_within, eq_self, mj_bi_some, mj_bv_some, mj_bj_some, mj_br_some, mj_r0, mj_r1, mj_q0, mj_q1, mj_b01, mj_q2, if_true, if_false, mj_it, mj_if, true_and, and_true, false_and, and_false, not_true_eq_false, not_false_eq_true, true_or, or_true, false_or, or_false, mj_nIle, mj_nIlt, mj_nIeq, mj_nI0, mj_nIc, mj_nIadd, mj_nIs, mj_ez, mj_ze, mj_eo, mj_ltz, mj_lez, mj_zlt, mj_olt, mj_lto, mj_leo, mj_ole, mj_nIn, mj_nnI, nl_2, nl_3, nl_4, nl_5, nl_6, nl_7, nl_8, nl_9, nl_10, nl_11, nl_12, nl_13, nl_14, nl_15, nl_16, nl_17, nl_18, nl_19, nl_20, nl_21, nl_22, nl_23, nl_24, nl_25, nl_26, nl_27, nl_28, nl_29, nl_30, nl_31, nl_32, nl_33, nl_34, nl_35, nl_36, nl_37, nl_38, nl_39, nl_40, nl_41, nl_42, nl_43, nl_44, nl_45, nl_46, nl_47, nl_48, nl_49, nl_50, nl_51, nl_52, nl_53, nl_54, nl_55, nl_56, nl_57, nl_58, nl_59, nl_60, nl_61, nl_62, nl_63, nl_64, nl_65, nl_66, nl_67, nl_68, nl_69, nl_92, nl_97, nl_99, nl_100, nl_122, nl_127, nl_128, nl_131, nl_132, nl_150, nl_200, nl_255, nl_256, nl_300, nl_342, nl_380, nl_381, nl_400, nl_401, nl_420, nl_500, nl_600, nl_800, nl_999, nl_1000, nl_1023, nl_1024, nl_1200, nl_2048, nl_2100, nl_4096, nl_9999, nl_10000, nl_10240, nl_999999, nl_1000000, if_pos, if_neg, v1, v2, v3, a0]
          · simp (disch := omega) only [q108_0, q108_6, q108_15, q108_25, q108_32, q108_33, q108_55, q108_57, q108_64, q108_83, q108_84, q108_87, e108, s_within, eq_self, mj_bi_some, mj_bv_some, mj_bj_some, mj_br_some, mj_r0, mj_r1, mj_q0, mj_q1, mj_b01, mj_q2, if_true, if_false, mj_it, mj_if, true_and, and_true, false_and, and_false, not_true_eq_false, not_false_eq_true, true_or, or_true, false_or, or_false, mj_nIle, mj_nIlt, mj_nIeq, mj_nI0, mj_nIc, mj_nIadd, mj_nIs, mj_ez, mj_ze, mj_eo, mj_ltz, mj_lez, mj_zlt, mj_olt, mj_lto, mj_leo, mj_ole, mj_nIn, mj_nnI, nl_2, nl_3, nl_4, nl_5, nl_6, nl_7, nl_8, nl_9, nl_10, nl_11, nl_12, nl_13, nl_14, nl_15, nl_16, nl_17, nl_18, nl_19, nl_20, nl_21, nl_22, nl_23, nl_24, nl_25, nl_26, nl_27, nl_28, nl_29, nl_30, nl_31, nl_32, nl_33, nl_34, nl_35, nl_36, nl_37, nl_38, nl_39, nl_40, nl_41, nl_42, nl_43, nl_44, nl_45, nl_46, nl_47, nl_48, nl_49, nl_50, nl_51, nl_52, nl_53, nl_54, nl_55, nl_56, nl_57, nl_58, nl_59, nl_60, nl_61, nl_62, nl_63, nl_64, nl_65, nl_66, nl_67, nl_68, nl_69, nl_92, nl_97, nl_99, nl_100, nl_122, nl_127, nl_128, nl_131, nl_132, nl_150, nl_200, nl_255, nl_256, nl_300, nl_342, nl_380, nl_381, nl_400, nl_401, nl_420, nl_500, nl_600, nl_800, nl_999, nl_1000, nl_1023, nl_1024, nl_1200, nl_2048, nl_2100, nl_4096, nl_9999, nl_10000, nl_10240, nl_999999, nl_1000000, if_pos, if_neg, v1, v2, v3, a0]
        · simp (disch := omega) only [q108_0, q108_6, q108_15, q108_25, q108_32, q108_33, q108_55, q108_57, q108_64, q108_83, q108_84, q108_87, e108, s_within, eq_self, mj_bi_some, mj_bv_some, mj_bj_some, mj_br_some, mj_r0, mj_r1, mj_q0, mj_q1, mj_b01, mj_q2, if_true, if_false, mj_it, mj_if, true_and, and_true, false_and, and_false, not_true_eq_false, not_false_eq_true, true_or, or_true, false_or, or_false, mj_nIle, mj_nIlt, mj_nIeq, mj_nI0, mj_nIc, mj_nIadd, mj_nIs, mj_ez, mj_ze, mj_eo, mj_ltz, mj_lez, mj_zlt, mj_olt, mj_lto, mj_leo, mj_ole, mj_nIn, mj_nnI, nl_2, nl_3, nl_4, nl_5, nl_6, nl_7, nl_8, nl_9, nl_10, nl_11, nl_12, nl_13, nl_14, nl_15, nl_16, nl_17, nl_18, nl_19, nl_20, nl_21, nl_22, nl_23, nl_24, nl_25, nl_26, nl_27, nl_28, nl_29, nl_30, nl_31, nl_32, nl_33, nl_34, nl_35, nl_36, nl_37, nl_38, nl_39, nl_40, nl_41, nl_42, nl_43, nl_44, nl_45, nl_46, nl_47, nl_48, nl_49, nl_50, nl_51, nl_52, nl_53, nl_54, nl_55, nl_56, nl_57, nl_58, nl_59, nl_60, nl_61, nl_62, nl_63, nl_64, nl_65, nl_66, nl_67, nl_68, nl_69, nl_92, nl_97, nl_99, nl_100, nl_122, nl_127, nl_128, nl_131, nl_132, nl_150, nl_200, nl_255, nl_256, nl_300, nl_342, nl_380, nl_381, nl_400, nl_401, nl_420, nl_500, nl_600, nl_800, nl_999, nl_1000, nl_1023, nl_1024, nl_1200, nl_2048, nl_2100, nl_4096, nl_9999, nl_10000, nl_10240, nl_999999, nl_1000000, if_pos, if_neg, v1, v2, a0]
      · simp (disch := omega) only [q108_0, q108_6, q108_15, q108_25, q108_32, q108_33, q108_55, q108_57, q108_64, q108_83, q108_84, q108_87, e108, s_within, eq_self, mj_bi_some, mj_bv_some, mj_bj_some, mj_br_some, mj_r0, mj_r1, mj_q0, mj_q1, mj_b01, mj_q2, if_true, if_false, mj_it, mj_if, true_and, and_true, false_and, and_false, not_true_eq_false, not_false_eq_true, true_or, or_true, false_or, or_false, mj_nIle, mj_nIlt, mj_nIeq, mj_nI0, mj_nIc, mj_nIadd, mj_nIs, mj_ez, mj_ze, mj_eo, mj_ltz, mj_lez, mj_zlt, mj_olt, mj_lto, mj_leo, mj_ole, mj_nIn, mj_nnI, nl_2, nl_3, nl_4, nl_5, nl_6, nl_7, nl_8, nl_9, nl_10, nl_11, nl_12, nl_13, nl_14, nl_15, nl_16, nl_17, nl_18, nl_19, nl_20, nl_21, nl_22, nl_23, nl_24, nl_25, nl_26, nl_27, nl_28, nl_29, nl_30, nl_31, nl_32, nl_33, nl_34, nl_35, nl_36, nl_37, nl_38, nl_39, nl_40, nl_41, nl_42, nl_43, nl_44, nl_45, nl_46, nl_47, nl_48, nl_49, nl_50, nl_51, nl_52, nl_53, nl_54, nl_55, nl_56, nl_57, nl_58, nl_59, nl_60, nl_61, nl_62, nl_63, nl_64, nl_65, nl_66, nl_67, nl_68, nl_69, nl_92, nl_97, nl_99, nl_100, nl_122, nl_127, nl_128, nl_131, nl_132, nl_150, nl_200, nl_255, nl_256, nl_300, nl_342, nl_380, nl_381, nl_400, nl_401, nl_420, nl_500, nl_600, nl_800, nl_999, nl_1000, nl_1023, nl_1024, nl_1200, nl_2048, nl_2100, nl_4096, nl_9999, nl_10000, nl_10240, nl_999999, nl_1000000, if_pos, if_neg, v1, a0]
    · by_cases v1 : 0 ≤ a ∧ a ≤ nI 99
      · by_cases v2 : 0 ≤ b ∧ b ≤ nI 9
        · by_cases v3 : 0 ≤ p ∧ p ≤ nI 9999
          · have v4 : ¬ n < 10 := fun z => hv ⟨v1, v2, v3, z⟩
            simp (disch := omega) only [q170_0, q170_13, q170_24, q170_36, q170_48, q170_50, q170_122, q170_123, e170, s_isIn, eq_self, mj_bi_some, mj_bv_some, mj_bj_some, mj_br_some, mj_r0, mj_r1, mj_q0, mj_q1, mj_b01, mj_q2, if_true, if_false, mj_it, mj_if, true_and, and_true, false_and, and_false, not_true_eq_false, not_false_eq_true, true_or, or_true, false_or, or_false, mj_nIle, mj_nIlt, mj_nIeq, mj_nI0, mj_nIc, mj_nIadd, mj_nIs, mj_ez, mj_ze, mj_eo, mj_ltz, mj_lez, mj_zlt, mj_olt, mj_lto, mj_leo, mj_ole, mj_nIn, mj_nnI, nl_2, nl_3, nl_4, nl_5, nl_6, nl_7, nl_8, nl_9, nl_10, nl_11, nl_12, nl_13, nl_14, nl_15, nl_16, nl_17, nl_18, nl_19, nl_20, nl_21, nl_22, nl_23, nl_24, nl_25, nl_26, nl_27, nl_28, nl_29, nl_30, nl_31, nl_32, nl_33, nl_34, nl_35, nl_36, nl_37, nl_38, nl_39, nl_40, nl_41, nl_42, nl_43, nl_44, nl_45, nl_46, nl_47, nl_48, nl_49, nl_50, nl_51, nl_52, nl_53, nl_54, nl_55, nl_56, nl_57, nl_58, nl_59, nl_60, nl_61, nl_62, nl_63, nl_64, nl_65, nl_66, nl_67, nl_68, nl_69, nl_92, nl_97, nl_99, nl_100, nl_122, nl_127, nl_128, nl_131, nl_132, nl_150, nl_200, nl_255, nl_256, nl_300, nl_342, nl_380, nl_381, nl_400, nl_401, nl_420, nl_500, nl_600, nl_800, nl_999, nl_1000, nl_1023, nl_1024, nl_1200, nl_2048, nl_2100, nl_4096, nl_9999, nl_10000, nl_10240, nl_999999, nl_1000000, if_pos, if_neg, v1, v2, v3, mN, mj_u_pt]
          · simp (disch := omega) only [q170_0, q170_13, q170_24, q170_36, q170_48, q170_50, q170_122, q170_123, e170, s_isIn, eq_self, mj_bi_some, mj_bv_some, mj_bj_some, mj_br_some, mj_r0, mj_r1, mj_q0, mj_q1, mj_b01, mj_q2, if_true, if_false, mj_it, mj_if, true_and, and_true, false_and, and_false, not_true_eq_false, not_false_eq_true, true_or, or_true, false_or, or_false, mj_nIle, mj_nIlt, mj_nIeq, mj_nI0, mj_nIc, mj_nIadd, mj_nIs, mj_ez, mj_ze, mj_eo, mj_ltz, mj_lez, mj_zlt, mj_olt, mj_lto, mj_leo, mj_ole, mj_nIn, mj_nnI, nl_2, nl_3, nl_4, nl_5, nl_6, nl_7, nl_8, nl_9, nl_10, nl_11, nl_12, nl_13, nl_14, nl_15, nl_16, nl_17, nl_18, nl_19, nl_20, nl_21, nl_22, nl_23, nl_24, nl_25, nl_26, nl_27, nl_28, nl_29, nl_30, nl_31, nl_32, nl_33, nl_34, nl_35, nl_36, nl_37, nl_38, nl_39, nl_40, nl_41, nl_42, nl_43, nl_44, nl_45, nl_46, nl_47, nl_48, nl_49, nl_50, nl_51, nl_52, nl_53, nl_54, nl_55, nl_56, nl_57, nl_58, nl_59, nl_60, nl_61, nl_62, nl_63, nl_64, nl_65, nl_66, nl_67, nl_68, nl_69, nl_92, nl_97, nl_99, nl_100, nl_122, nl_127, nl_128, nl_131, nl_132, nl_150, nl_200, nl_255, nl_256, nl_300, nl_342, nl_380, nl_381, nl_400, nl_401, nl_420, nl_500, nl_600, nl_800, nl_999, nl_1000, nl_1023, nl_1024, nl_1200, nl_2048, nl_2100, nl_4096, nl_9999, nl_10000, nl_10240, nl_999999, nl_1000000, if_pos, if_neg, v1, v2, v3, mN, mj_u_pt]
        · simp (disch := omega) only [q170_0, q170_13, q170_24, q170_36, q170_48, q170_50, q170_122, q170_123, e170, s_isIn, eq_self, mj_bi_some, mj_bv_some, mj_bj_some, mj_br_some, mj_r0, mj_r1, mj_q0, mj_q1, mj_b01, mj_q2, if_true, if_false, mj_it, mj_if, true_and, and_true, false_and, and_false, not_true_eq_false, not_false_eq_true, true_or, or_true, false_or, or_false, mj_nIle, mj_nIlt, mj_nIeq, mj_nI0, mj_nIc, mj_nIadd, mj_nIs, mj_ez, mj_ze, mj_eo, mj_ltz, mj_lez, mj_zlt, mj_olt, mj_lto, mj_leo, mj_ole, mj_nIn, mj_nnI, nl_2, nl_3, nl_4, nl_5, nl_6, nl_7, nl_8, nl_9, nl_10, nl_11, nl_12, nl_13, nl_14, nl_15, nl_16, nl_17, nl_18, nl_19, nl_20, nl_21, nl_22, nl_23, nl_24, nl_25, nl_26, nl_27, nl_28, nl_29, nl_30, nl_31, nl_32, nl_33, nl_34, nl_35, nl_36, nl_37, nl_38, nl_39, nl_40, nl_41, nl_42, nl_43, nl_44, nl_45, nl_46, nl_47, nl_48, nl_49, nl_50, nl_51, nl_52, nl_53, nl_54, nl_55, nl_56, nl_57, nl_58, nl_59, nl_60, nl_61, nl_62, nl_63, nl_64, nl_65, nl_66, nl_67, nl_68, nl_69, nl_92, nl_97, nl_99, nl_100, nl_122, nl_127, nl_128, nl_131, nl_132, nl_150, nl_200, nl_255, nl_256, nl_300, nl_342, nl_380, nl_381, nl_400, nl_401, nl_420, nl_500, nl_600, nl_800, nl_999, nl_1000, nl_1023, nl_1024, nl_1200, nl_2048, nl_2100, nl_4096, nl_9999, nl_10000, nl_10240, nl_999999, nl_1000000, if_pos, if_neg, v1, v2, mN, mj_u_pt]
      · simp (disch := omega) only [q170_0, q170_13, q170_24, q170_36, q170_48, q170_50, q170_122, q170_123, e170, s_isIn, eq_self, mj_bi_some, mj_bv_some, mj_bj_some, mj_br_some, mj_r0, mj_r1, mj_q0, mj_q1, mj_b01, mj_q2, if_true, if_false, mj_it, mj_if, true_and, and_true, false_and, and_false, not_true_eq_false, not_false_eq_true, true_or, or_true, false_or, or_false, mj_nIle, mj_nIlt, mj_nIeq, mj_nI0, mj_nIc, mj_nIadd, mj_nIs, mj_ez, mj_ze, mj_eo, mj_ltz, mj_lez, mj_zlt, mj_olt, mj_lto, mj_leo, mj_ole, mj_nIn, mj_nnI, nl_2, nl_3, nl_4, nl_5, nl_6, nl_7, nl_8, nl_9, nl_10, nl_11, nl_12, nl_13, nl_14, nl_15, nl_16, nl_17, nl_18, nl_19, nl_20, nl_21, nl_22, nl_23, nl_24, nl_25, nl_26, nl_27, nl_28, nl_29, nl_30, nl_31, nl_32, nl_33, nl_34, nl_35, nl_36, nl_37, nl_38, nl_39, nl_40, nl_41, nl_42, nl_43, nl_44, nl_45, nl_46, nl_47, nl_48, nl_49, nl_50, nl_51, nl_52, nl_53, nl_54, nl_55, nl_56, nl_57, nl_58, nl_59, nl_60, nl_61, nl_62, nl_63, nl_64, nl_65, nl_66, nl_67, nl_68, nl_69, nl_92, nl_97, nl_99, nl_100, nl_122, nl_127, nl_128, nl_131, nl_132, nl_150, nl_200, nl_255, nl_256, nl_300, nl_342, nl_380, nl_381, nl_400, nl_401, nl_420, nl_500, nl_600, nl_800, nl_999, nl_1000, nl_1023, nl_1024, nl_1200, nl_2048, nl_2100, nl_4096, nl_9999, nl_10000, nl_10240, nl_999999, nl_1000000, if_pos, if_neg, v1, mN, mj_u_pt]
