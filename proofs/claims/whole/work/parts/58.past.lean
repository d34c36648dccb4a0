/-! what is kept ahead of an act on the reference's side; undo, act -/
section MJ58
variable {E : mj_E} {d w c : Nat} {hi : mj_HI} {hl : Nat → Nat → Int64}
theorem s_keepM0 {u : Nat} (hu : u ≤ 6) (h0 : hi 205 3 = nI u) : ∃ g, mj_den mj_P E d 158 0 [.ref 205, .float 0] [] (mj_hw w c hi hl) = mj_den mj_P E d 158 55 [.ref 205, .int 0] [] (mj_hw w c g hl) ∧ g 205 3 = nI (min 6 (u + 1) - 1) ∧ (∀ i, i < 57 * (min 6 (u + 1) - 1) → g 207 i = hi 207 (57 * (u + 1 - min 6 (u + 1)) + i)) ∧ (∀ a k, a ≠ 207 → (a = 205 → k ≠ 3) → g a k = hi a k) := by
  by_cases h6 : u = 6
  · subst h6
    have key := lp_ex (fun k (g : mj_HI) => mj_den mj_P E d 158 21 [.ref 205, .int (nI k)] [] (mj_hw w c g hl)) (fun k g => g 205 3 = nI 5 ∧ (∀ i, i < k → g 207 i = hi 207 (57 + i)) ∧ (∀ i, k ≤ i → g 207 i = hi 207 i) ∧ (∀ a k, a ≠ 207 → (a = 205 → k ≠ 3) → g a k = hi a k)) 285 (fun k g hk hI => ?_) (mj_u hi 205 3 (nI 5)) ⟨mj_u_eq, fun i hi => absurd hi (by omega), fun i _ => by rw [mj_u_pt (by omega)], fun a k h1 h2 => by rw [mj_u_pt (by omega)]⟩
    · obtain ⟨g, e, g1, g2, g3, g4⟩ := key
      refine ⟨g, ?_, g1, fun i hi => by rw [g2 i (by omega)]; congr 1, g4⟩
      rw [g158_0, h0]
      have h5 : nI 6 - 1 = nI 5 := rfl
      simp (disch := omega) only [↓reduceIte, Bool.false_eq_true, eq_self, mj_10, mj_01, mj_n10, mj_0n1, mj_1n1, mj_n11, mj_bi_some, mj_bv_some, mj_bj_some, mj_br_some, mj_r0, mj_r1, mj_q0, mj_q1, mj_b01, mj_q2, if_true, if_false, mj_it, mj_if, true_and, and_true, false_and, and_false, not_true_eq_false, not_false_eq_true, true_or, or_true, false_or, or_false, mj_nIle, mj_nIlt, mj_nIeq, mj_nI0, mj_nIc, mj_nIadd, mj_nIs, mj_ez, mj_ze, mj_eo, mj_ltz, mj_lez, mj_zlt, mj_olt, mj_lto, mj_leo, mj_ole, mj_nIn, mj_nnI, nl_2, nl_3, nl_4, nl_5, nl_6, nl_7, nl_8, nl_9, nl_10, nl_11, nl_12, nl_13, nl_14, nl_15, nl_16, nl_17, nl_18, nl_19, nl_20, nl_21, nl_22, nl_23, nl_24, nl_25, nl_26, nl_27, nl_28, nl_29, nl_30, nl_32, nl_33, nl_34, nl_35, nl_36, nl_37, nl_38, nl_39, nl_40, nl_41, nl_42, nl_43, nl_44, nl_45, nl_46, nl_47, nl_48, nl_49, nl_50, nl_51, nl_52, nl_53, nl_54, nl_55, nl_56, nl_57, nl_58, nl_59, nl_60, nl_61, nl_62, nl_64, nl_65, nl_66, nl_67, nl_68, nl_69, nl_92, nl_97, nl_99, nl_100, nl_122, nl_127, nl_128, nl_131, nl_132, nl_150, nl_200, nl_255, nl_256, nl_300, nl_342, nl_380, nl_381, nl_400, nl_401, nl_420, nl_500, nl_600, nl_800, nl_999, nl_1000, nl_1023, nl_1024, nl_1200, nl_2048, nl_2100, nl_4096, nl_9999, nl_10000, nl_10240, nl_999999, nl_1000000, if_pos, if_neg, h5]
      refine Eq.trans e ?_
      show mj_den mj_P E d 158 21 [.ref 205, .int (nI 285)] [] (mj_hw w c g hl) = _
      rw [g158_21, g1]
      simp (disch := omega) only [↓reduceIte, Bool.false_eq_true, eq_self, mj_10, mj_01, mj_n10, mj_0n1, mj_1n1, mj_n11, mj_bi_some, mj_bv_some, mj_bj_some, mj_br_some, mj_r0, mj_r1, mj_q0, mj_q1, mj_b01, mj_q2, if_true, if_false, mj_it, mj_if, true_and, and_true, false_and, and_false, not_true_eq_false, not_false_eq_true, true_or, or_true, false_or, or_false, mj_nIle, mj_nIlt, mj_nIeq, mj_nI0, mj_nIc, mj_nIadd, mj_nIs, mj_ez, mj_ze, mj_eo, mj_ltz, mj_lez, mj_zlt, mj_olt, mj_lto, mj_leo, mj_ole, mj_nIn, mj_nnI, nl_2, nl_3, nl_4, nl_5, nl_6, nl_7, nl_8, nl_9, nl_10, nl_11, nl_12, nl_13, nl_14, nl_15, nl_16, nl_17, nl_18, nl_19, nl_20, nl_21, nl_22, nl_23, nl_24, nl_25, nl_26, nl_27, nl_28, nl_29, nl_30, nl_32, nl_33, nl_34, nl_35, nl_36, nl_37, nl_38, nl_39, nl_40, nl_41, nl_42, nl_43, nl_44, nl_45, nl_46, nl_47, nl_48, nl_49, nl_50, nl_51, nl_52, nl_53, nl_54, nl_55, nl_56, nl_57, nl_58, nl_59, nl_60, nl_61, nl_62, nl_64, nl_65, nl_66, nl_67, nl_68, nl_69, nl_92, nl_97, nl_99, nl_100, nl_122, nl_127, nl_128, nl_131, nl_132, nl_150, nl_200, nl_255, nl_256, nl_300, nl_342, nl_380, nl_381, nl_400, nl_401, nl_420, nl_500, nl_600, nl_800, nl_999, nl_1000, nl_1023, nl_1024, nl_1200, nl_2048, nl_2100, nl_4096, nl_9999, nl_10000, nl_10240, nl_999999, nl_1000000, if_pos, if_neg, mj_nImul, g158_53]
    · obtain ⟨g1, g2, g3, g4⟩ := hI
      refine ⟨mj_u g 207 k (g 207 (k + 57)), ?_, ?_, fun i hi => ?_, fun i hi => ?_, fun a j h1 h2 => ?_⟩
      · show mj_den mj_P E d 158 21 [.ref 205, .int (nI k)] [] (mj_hw w c g hl) = mj_den mj_P E d 158 21 [.ref 205, .int (nI (k + 1))] [] (mj_hw w c (mj_u g 207 k (g 207 (k + 57))) hl)
        rw [g158_21, g1]
        simp (disch := omega) only [↓reduceIte, Bool.false_eq_true, eq_self, mj_10, mj_01, mj_n10, mj_0n1, mj_1n1, mj_n11, mj_bi_some, mj_bv_some, mj_bj_some, mj_br_some, mj_r0, mj_r1, mj_q0, mj_q1, mj_b01, mj_q2, if_true, if_false, mj_it, mj_if, true_and, and_true, false_and, and_false, not_true_eq_false, not_false_eq_true, true_or, or_true, false_or, or_false, mj_nIle, mj_nIlt, mj_nIeq, mj_nI0, mj_nIc, mj_nIadd, mj_nIs, mj_ez, mj_ze, mj_eo, mj_ltz, mj_lez, mj_zlt, mj_olt, mj_lto, mj_leo, mj_ole, mj_nIn, mj_nnI, nl_2, nl_3, nl_4, nl_5, nl_6, nl_7, nl_8, nl_9, nl_10, nl_11, nl_12, nl_13, nl_14, nl_15, nl_16, nl_17, nl_18, nl_19, nl_20, nl_21, nl_22, nl_23, nl_24, nl_25, nl_26, nl_27, nl_28, nl_29, nl_30, nl_32, nl_33, nl_34, nl_35, nl_36, nl_37, nl_38, nl_39, nl_40, nl_41, nl_42, nl_43, nl_44, nl_45, nl_46, nl_47, nl_48, nl_49, nl_50, nl_51, nl_52, nl_53, nl_54, nl_55, nl_56, nl_57, nl_58, nl_59, nl_60, nl_61, nl_62, nl_64, nl_65, nl_66, nl_67, nl_68, nl_69, nl_92, nl_97, nl_99, nl_100, nl_122, nl_127, nl_128, nl_131, nl_132, nl_150, nl_200, nl_255, nl_256, nl_300, nl_342, nl_380, nl_381, nl_400, nl_401, nl_420, nl_500, nl_600, nl_800, nl_999, nl_1000, nl_1023, nl_1024, nl_1200, nl_2048, nl_2100, nl_4096, nl_9999, nl_10000, nl_10240, nl_999999, nl_1000000, if_pos, if_neg, mj_nImul]
      · rw [mj_u_pt (by omega)]; exact g1
      · by_cases hik : i = k
        · subst hik; rw [mj_u_eq, g3 _ (by omega), Nat.add_comm]
        · rw [mj_u_pt (by omega)]; exact g2 i (by omega)
      · rw [mj_u_pt (by omega)]; exact g3 i (by omega)
      · rw [mj_u_pt (by omega)]; exact g4 a j h1 h2
  · refine ⟨hi, ?_, by rw [h0]; congr 1; omega, fun i _ => by rw [show 57 * (u + 1 - min 6 (u + 1)) + i = i by omega], fun _ _ _ _ => rfl⟩
    rw [g158_0, h0]
    simp (disch := omega) only [↓reduceIte, Bool.false_eq_true, eq_self, mj_10, mj_01, mj_n10, mj_0n1, mj_1n1, mj_n11, mj_bi_some, mj_bv_some, mj_bj_some, mj_br_some, mj_r0, mj_r1, mj_q0, mj_q1, mj_b01, mj_q2, if_true, if_false, mj_it, mj_if, true_and, and_true, false_and, and_false, not_true_eq_false, not_false_eq_true, true_or, or_true, false_or, or_false, mj_nIle, mj_nIlt, mj_nIeq, mj_nI0, mj_nIc, mj_nIadd, mj_nIs, mj_ez, mj_ze, mj_eo, mj_ltz, mj_lez, mj_zlt, mj_olt, mj_lto, mj_leo, mj_ole, mj_nIn, mj_nnI, nl_2, nl_3, nl_4, nl_5, nl_6, nl_7, nl_8, nl_9, nl_10, nl_11, nl_12, nl_13, nl_14, nl_15, nl_16, nl_17, nl_18, nl_19, nl_20, nl_21, nl_22, nl_23, nl_24, nl_25, nl_26, nl_27, nl_28, nl_29, nl_30, nl_32, nl_33, nl_34, nl_35, nl_36, nl_37, nl_38, nl_39, nl_40, nl_41, nl_42, nl_43, nl_44, nl_45, nl_46, nl_47, nl_48, nl_49, nl_50, nl_51, nl_52, nl_53, nl_54, nl_55, nl_56, nl_57, nl_58, nl_59, nl_60, nl_61, nl_62, nl_64, nl_65, nl_66, nl_67, nl_68, nl_69, nl_92, nl_97, nl_99, nl_100, nl_122, nl_127, nl_128, nl_131, nl_132, nl_150, nl_200, nl_255, nl_256, nl_300, nl_342, nl_380, nl_381, nl_400, nl_401, nl_420, nl_500, nl_600, nl_800, nl_999, nl_1000, nl_1023, nl_1024, nl_1200, nl_2048, nl_2100, nl_4096, nl_9999, nl_10000, nl_10240, nl_999999, nl_1000000, if_pos, if_neg, g158_53]
theorem s_keepM {u : Nat} (hu : u ≤ 6) (h0 : hi 205 3 = nI u) : ∃ hi', mj_dc mj_P E (d + 1) 158 [.ref 205] (mj_hw w c hi hl) = some (none, mj_hw w c hi' hl) ∧ hi' 205 3 = nI (min 6 (u + 1)) ∧ (∀ k, k < 57 → hi' 207 (57 * (min 6 (u + 1) - 1) + k) = hi 206 k) ∧ (∀ i, i < 57 * (min 6 (u + 1) - 1) → hi' 207 i = hi 207 (57 * (u + 1 - min 6 (u + 1)) + i)) ∧ (∀ a k, a ≠ 207 → (a = 205 → k ≠ 3) → hi' a k = hi a k) := by
  obtain ⟨g, e, g1, g2, g3⟩ := s_keepM0 (E := E) (d := d) (w := w) (c := c) (hi := hi) (hl := hl) hu h0
  have key := lp_ex (fun k (f : mj_HI) => mj_den mj_P E d 158 55 [.ref 205, .int (nI k)] [] (mj_hw w c f hl)) (fun k f => (∀ i, i < k → f 207 (57 * (min 6 (u + 1) - 1) + i) = hi 206 i) ∧ (∀ a i, (a ≠ 207 ∨ i < 57 * (min 6 (u + 1) - 1)) → f a i = g a i)) 57 (fun k f hk hI => ?_) g ⟨fun i hi => absurd hi (by omega), fun _ _ _ => rfl⟩
  · obtain ⟨f, e2, f1, f2⟩ := key
    refine ⟨mj_u f 205 3 (nI (min 6 (u + 1))), ?_, mj_u_eq, fun k hk => by rw [mj_u_pt (by omega)]; exact f1 k hk, fun i hi => by rw [mj_u_pt (by omega), f2 _ _ (by omega)]; exact g2 i hi, fun a k h1 h2 => ?_⟩
    · rw [xg158, e]
      refine Eq.trans e2 ?_
      show mj_den mj_P E d 158 55 [.ref 205, .int (nI 57)] [] (mj_hw w c f hl) = _
      rw [g158_55, if_pos (by decide), g158_87, f2 _ _ (by omega), g1, mj_nIs, show min 6 (u + 1) - 1 + 1 = min 6 (u + 1) by omega]
    · rw [mj_u_pt (by omega), f2 _ _ (by omega)]; exact g3 a k h1 h2
  · obtain ⟨f1, f2⟩ := hI
    refine ⟨mj_u f 207 (57 * (min 6 (u + 1) - 1) + k) (hi 206 k), ?_, fun i hi => ?_, fun a i h => ?_⟩
    · show mj_den mj_P E d 158 55 [.ref 205, .int (nI k)] [] (mj_hw w c f hl) = mj_den mj_P E d 158 55 [.ref 205, .int (nI (k + 1))] [] (mj_hw w c (mj_u f 207 (57 * (min 6 (u + 1) - 1) + k) (hi 206 k)) hl)
      have h6 : f 206 k = hi 206 k := by rw [f2 _ _ (by omega), g3 _ _ (by omega) (by omega)]
      have h3 : f 205 3 = nI (min 6 (u + 1) - 1) := by rw [f2 _ _ (by omega)]; exact g1
      rw [g158_55, h3]
      simp (disch := omega) only [↓reduceIte, Bool.false_eq_true, eq_self, mj_10, mj_01, mj_n10, mj_0n1, mj_1n1, mj_n11, mj_bi_some, mj_bv_some, mj_bj_some, mj_br_some, mj_r0, mj_r1, mj_q0, mj_q1, mj_b01, mj_q2, if_true, if_false, mj_it, mj_if, true_and, and_true, false_and, and_false, not_true_eq_false, not_false_eq_true, true_or, or_true, false_or, or_false, mj_nIle, mj_nIlt, mj_nIeq, mj_nI0, mj_nIc, mj_nIadd, mj_nIs, mj_ez, mj_ze, mj_eo, mj_ltz, mj_lez, mj_zlt, mj_olt, mj_lto, mj_leo, mj_ole, mj_nIn, mj_nnI, nl_2, nl_3, nl_4, nl_5, nl_6, nl_7, nl_8, nl_9, nl_10, nl_11, nl_12, nl_13, nl_14, nl_15, nl_16, nl_17, nl_18, nl_19, nl_20, nl_21, nl_22, nl_23, nl_24, nl_25, nl_26, nl_27, nl_28, nl_29, nl_30, nl_32, nl_33, nl_34, nl_35, nl_36, nl_37, nl_38, nl_39, nl_40, nl_41, nl_42, nl_43, nl_44, nl_45, nl_46, nl_47, nl_48, nl_49, nl_50, nl_51, nl_52, nl_53, nl_54, nl_55, nl_56, nl_57, nl_58, nl_59, nl_60, nl_61, nl_62, nl_64, nl_65, nl_66, nl_67, nl_68, nl_69, nl_92, nl_97, nl_99, nl_100, nl_122, nl_127, nl_128, nl_131, nl_132, nl_150, nl_200, nl_255, nl_256, nl_300, nl_342, nl_380, nl_381, nl_400, nl_401, nl_420, nl_500, nl_600, nl_800, nl_999, nl_1000, nl_1023, nl_1024, nl_1200, nl_2048, nl_2100, nl_4096, nl_9999, nl_10000, nl_10240, nl_999999, nl_1000000, if_pos, if_neg, mj_nImul, h6]
    · by_cases hik : i = k
      · subst hik; rw [mj_u_eq]
      · rw [mj_u_pt (by omega)]; exact f1 i (by omega)
    · rw [mj_u_pt (by omega)]; exact f2 a i h
theorem s_undoM {u : Nat} (hu : u ≤ 6) (hu0 : u ≠ 0) (h0 : hi 205 3 = nI u) : ∃ hi', mj_dc mj_P E (d + 1) 159 [.ref 205] (mj_hw w c hi hl) = some (some (.int 1), mj_hw w c hi' hl) ∧ hi' 205 3 = nI (u - 1) ∧ (∀ k, k < 57 → hi' 206 k = hi 207 (57 * (u - 1) + k)) ∧ (∀ a k, a ≠ 206 → (a = 205 → k ≠ 3 ∧ k ≠ 0) → hi' a k = hi a k) := by
  have key := lp_ex (fun k (f : mj_HI) => mj_den mj_P E d 159 26 [.ref 205, .int (nI k)] [] (mj_hw w c f hl)) (fun k f => (∀ i, i < k → f 206 i = hi 207 (57 * (u - 1) + i)) ∧ f 205 3 = nI (u - 1) ∧ (∀ a i, a ≠ 206 → (a = 205 → i ≠ 3 ∧ i ≠ 0) → f a i = hi a i)) 57 (fun k f hk hI => ?_) (mj_u (mj_u hi 205 0 0) 205 3 (nI (u - 1))) ⟨fun i hi => absurd hi (by omega), mj_u_eq, fun a k h1 h2 => by rw [mj_u_pt (by omega), mj_u_pt (by omega)]⟩
  · obtain ⟨f, e2, f1, f2, f3⟩ := key
    refine ⟨f, ?_, f2, f1, f3⟩
    have h1 : (mj_u hi 205 0 0) 205 3 = nI u := by rw [mj_u_pt (by omega)]; exact h0
    rw [e159, q159_0, h0, if_pos (by rw [mj_ez (by omega)]; exact hu0), q159_14, h1, mj_nIp (by omega)]
    refine Eq.trans e2 ?_
    show mj_den mj_P E d 159 26 [.ref 205, .int (nI 57)] [] (mj_hw w c f hl) = _
    rw [q159_26, if_pos (by decide), q159_58, mj_r1]
  · obtain ⟨f1, f2, f3⟩ := hI
    refine ⟨mj_u f 206 k (hi 207 (57 * (u - 1) + k)), ?_, fun i hi => ?_, ?_, fun a i h1 h2 => ?_⟩
    · show mj_den mj_P E d 159 26 [.ref 205, .int (nI k)] [] (mj_hw w c f hl) = mj_den mj_P E d 159 26 [.ref 205, .int (nI (k + 1))] [] (mj_hw w c (mj_u f 206 k (hi 207 (57 * (u - 1) + k))) hl)
      have h6 : f 207 (57 * (u - 1) + k) = hi 207 (57 * (u - 1) + k) := f3 _ _ (by omega) (by omega)
      rw [q159_26, f2]
      simp (disch := omega) only [↓reduceIte, Bool.false_eq_true, eq_self, mj_10, mj_01, mj_n10, mj_0n1, mj_1n1, mj_n11, mj_bi_some, mj_bv_some, mj_bj_some, mj_br_some, mj_r0, mj_r1, mj_q0, mj_q1, mj_b01, mj_q2, if_true, if_false, mj_it, mj_if, true_and, and_true, false_and, and_false, not_true_eq_false, not_false_eq_true, true_or, or_true, false_or, or_false, mj_nIle, mj_nIlt, mj_nIeq, mj_nI0, mj_nIc, mj_nIadd, mj_nIs, mj_ez, mj_ze, mj_eo, mj_ltz, mj_lez, mj_zlt, mj_olt, mj_lto, mj_leo, mj_ole, mj_nIn, mj_nnI, nl_2, nl_3, nl_4, nl_5, nl_6, nl_7, nl_8, nl_9, nl_10, nl_11, nl_12, nl_13, nl_14, nl_15, nl_16, nl_17, nl_18, nl_19, nl_20, nl_21, nl_22, nl_23, nl_24, nl_25, nl_26, nl_27, nl_28, nl_29, nl_30, nl_32, nl_33, nl_34, nl_35, nl_36, nl_37, nl_38, nl_39, nl_40, nl_41, nl_42, nl_43, nl_44, nl_45, nl_46, nl_47, nl_48, nl_49, nl_50, nl_51, nl_52, nl_53, nl_54, nl_55, nl_56, nl_57, nl_58, nl_59, nl_60, nl_61, nl_62, nl_64, nl_65, nl_66, nl_67, nl_68, nl_69, nl_92, nl_97, nl_99, nl_100, nl_122, nl_127, nl_128, nl_131, nl_132, nl_150, nl_200, nl_255, nl_256, nl_300, nl_342, nl_380, nl_381, nl_400, nl_401, nl_420, nl_500, nl_600, nl_800, nl_999, nl_1000, nl_1023, nl_1024, nl_1200, nl_2048, nl_2100, nl_4096, nl_9999, nl_10000, nl_10240, nl_999999, nl_1000000, if_pos, if_neg, mj_nImul, h6]
    · by_cases hik : i = k
      · subst hik; rw [mj_u_eq]
      · rw [mj_u_pt (by omega)]; exact f1 i (by omega)
    · rw [mj_u_pt (by omega)]; exact f2
    · rw [mj_u_pt (by omega)]; exact f3 a i h1 h2
set_option maxRecDepth 100000 in
theorem f44_17 : mj_find (mj_P 44).2.2.2.2 17 = [(.istore_n 2, 1, 0, []), (.aload_n 0, 1, 0, []), (.getfield 9, 3, 0, [5, 0, 0, 462]), (.ifCond .eq 22, 3, 0, [44]), (.iload_n 2, 1, 0, []), (.ifCond .lt 18, 3, 0, [44]), (.iload_n 2, 1, 0, []), (.bipush 6, 2, 6, []), (.if_icmp .ge 12, 3, 0, [44]), (.aload_n 0, 1, 0, []), (.getfield 20, 3, 0, [5, 2, 3, 465]), (.iload_n 2, 1, 0, []), (.aaload, 1, 0, []), (.ifnonnull 5, 3, 0, [46])] := rfl
set_option maxRecDepth 100000 in
theorem f44_44 : mj_find (mj_P 44).2.2.2.2 44 = [(.iconst 0, 1, 0, []), (.ireturn, 1, 0, [1])] := rfl
set_option maxRecDepth 100000 in
theorem f44_46 : mj_find (mj_P 44).2.2.2.2 46 = [(.aload_n 1, 1, 0, []), (.aload_n 0, 1, 0, []), (.getfield 20, 3, 0, [5, 2, 3, 465]), (.iload_n 2, 1, 0, []), (.aaload, 1, 0, []), (.invokevirtual 25, 3, 0, [0, 83, 7, 1, 0, 720, 721, 722, 145, 723])] := rfl
set_option maxRecDepth 100000 in
theorem f44_56 : mj_find (mj_P 44).2.2.2.2 56 = [(.aload_n 0, 1, 0, []), (.iload_n 2, 1, 0, []), (.putfield 15, 3, 0, [5, 1, 0, 464]), (.aload_n 0, 1, 0, []), (.dup, 1, 0, []), (.getfield 9, 3, 0, [5, 0, 0, 462]), (.iconst 1, 1, 1, []), (.isub, 1, 0, []), (.putfield 9, 3, 0, [5, 0, 0, 462]), (.iconst 1, 1, 1, []), (.ireturn, 1, 0, [1])] := rfl
theorem r44_17 {x : Nat} (hx : x < 6) : mj_den mj_P E d 44 17 [.ref 91, .ref 2, .float 0] [.int (nI x)] (mj_hw w c hi hl) = if hi 91 0 = 0 then mj_den mj_P E d 44 44 [.ref 91, .ref 2, .int (nI x)] [] (mj_hw w c hi hl) else if nI x < 0 then mj_den mj_P E d 44 44 [.ref 91, .ref 2, .int (nI x)] [] (mj_hw w c hi hl) else if 6 ≤ nI x then mj_den mj_P E d 44 44 [.ref 91, .ref 2, .int (nI x)] [] (mj_hw w c hi hl) else mj_den mj_P E d 44 46 [.ref 91, .ref 2, .int (nI x)] [] (mj_hw w c hi hl) := by
  rw [mj_den_eq, f44_17]
  exact zt_istore_n (Nat.le_of_ble_eq_true rfl) rfl rfl (zt_aload_n rfl rfl (zt_geti (mjkd91 _ _ _ _) rfl rfl (zt_if_eq rfl rfl (zt_iload_n rfl rfl (zt_if_lt rfl rfl (zt_iload_n rfl rfl (zt_bipush rfl (zt_icmp_ge rfl rfl (zt_aload_n rfl rfl (zt_getr (mjkd91 _ _ _ _) (mjhr91_2 w c) rfl (zt_iload_n rfl rfl (zt_aald (n := 6) (j := x) (x := 93 + 11 * x) rfl rfl (by rw [mj_nI0 (by omega)]; trivial) (mj_nIc (by omega)) hx (mj_HRK (w := w) (c := c) hx) rfl (zt_nnr rfl)))))))))))))
theorem r44_44 {v : Value} : mj_den mj_P E d 44 44 [.ref 91, .ref 2, v] [] (mj_hw w c hi hl) = some (some (.int 0), mj_hw w c hi hl) := by
  rw [mj_den_eq, f44_44]
  exact (zt_iconst rfl zt_ireturn1).trans (mj_r0 _)
theorem r44_46 {x : Nat} (hx : x < 6) : mj_den mj_P E d 44 46 [.ref 91, .ref 2, .int (nI x)] [] (mj_hw w c hi hl) = mj_bv (mj_dc mj_P E d 83 [.ref 2, .ref (93 + 11 * x)] (mj_hw w c hi hl)) (fun h1 => mj_den mj_P E d 44 56 [.ref 91, .ref 2, .int (nI x)] [] h1) := by
  rw [mj_den_eq, f44_46]
  exact zt_aload_n rfl rfl (zt_aload_n rfl rfl (zt_getr (mjkd91 _ _ _ _) (mjhr91_2 w c) rfl (zt_iload_n rfl rfl (zt_aald (n := 6) (j := x) (x := 93 + 11 * x) rfl rfl (by rw [mj_nI0 (by omega)]; trivial) (mj_nIc (by omega)) hx (mj_HRK (w := w) (c := c) hx) rfl (zt_call0_0 rfl (mjkd2 _ _ _ _) (Nat.le_of_ble_eq_true rfl) rfl rfl)))))
theorem r44_56 (v : Int32) : mj_den mj_P E d 44 56 [.ref 91, .ref 2, .int v] [] (mj_hw w c hi hl) = some (some (.int 1), mj_hw w c (mj_u (mj_u hi 91 1 v) 91 0 (hi 91 0 - 1)) hl) := by
  rw [mj_den_eq, f44_56]
  exact (zt_aload_n rfl rfl (zt_iload_n rfl rfl (zt_puti (mjkd91 _ _ _ _) rfl rfl (zt_aload_n rfl rfl (zt_dupr rfl (zt_geti (v := hi 91 0) (mjkd91 _ _ _ _) (by simp (disch := omega) only [mj_hw_wi, mj_hw_1, mj_u_pt]) rfl (zt_iconst rfl (zt_isub rfl (zt_puti (mjkd91 _ _ _ _) rfl rfl (zt_iconst rfl zt_ireturn1)))))))))).trans (mj_r1 _)
theorem s_goBack {x u : Nat} (hx : x < 6) (hu : u ≤ 6) (hu0 : u ≠ 0) (h1 : hi 91 1 = nI x) (h0 : hi 91 0 = nI u) : ∃ hi', mj_dc mj_P E (d + 4) 44 [.ref 91, .ref 2] (mj_hw w c hi hl) = some (some (.int 1), mj_hw w c hi' hl) ∧ hi' 91 0 = nI (u - 1) ∧ hi' 91 1 = nI ((x + 5) % 6) ∧ (∀ j k, j < 11 → k < iv_wl (1 + j) → hi' (2 + j) k = hi (93 + 11 * ((x + 5) % 6) + j) k) ∧ (∀ a k, (a < 2 ∨ 12 < a) → a ≠ 91 → hi' a k = hi a k) := by
  have hy : (x + 5) % 6 < 6 := Nat.mod_lt _ (by omega)
  obtain ⟨g, eg, g1, g2⟩ := s_rcopy (E := E) (d := d) (w := w) (c := c) (hi := hi) (hl := hl) (mj_Rm2 w c) (mj_RmK (w := w) (c := c) hy) (Or.inl (by omega))
  refine ⟨mj_u (mj_u g 91 1 (nI ((x + 5) % 6))) 91 0 (nI (u - 1)), ?_, mj_u_eq, by rw [mj_u_pt (by omega), mj_u_eq], fun j k hj hk => by rw [mj_u_pt (by omega), mj_u_pt (by omega)]; exact g1 j k hj hk, fun a k ha hb => by rw [mj_u_pt (by omega), mj_u_pt (by omega)]; exact g2 a k ha⟩
  have hA : mj_dc mj_P E (d + 4) 44 [.ref 91, .ref 2] (mj_hw w c hi hl) = mj_den mj_P E (d + 3) 44 17 [.ref 91, .ref 2, .float 0] [.int (nI ((x + 5) % 6))] (mj_hw w c hi hl) := by
    rw [e44, q44_0, h1]
    by_cases hx0 : x = 0
    · subst hx0; rw [if_neg (by rw [mj_ez (by omega)]; omega)]; rfl
    · rw [if_pos (by rw [mj_ez (by omega)]; exact hx0), q44_11, h1, mj_nIp (by omega), show (x + 5) % 6 = x - 1 by omega]
  rw [hA, r44_17 hy, h0, if_neg (by rw [mj_ez (by omega)]; exact hu0), if_neg (by rw [mj_ltz (by omega)]; exact fun z => z), if_neg (by rw [nl_6, mj_nIle (by omega) (by omega)]; omega), r44_46 hy, eg, mj_bv_some, r44_56, g2 _ _ (by omega), h0, mj_nIp (by omega)]
end MJ58
/-- the past with one more kept -/
theorem iv_P2_keep {n l : Nat} {h m h' m' : mj_HI} (hn : n ≤ 10) (hl : l ≤ 12) (q : iv_P2 n l h m) (hX : iv_X n l h (m 206) m) (u x : Nat) (hu : u ≤ 6) (hx : x < 6) (h0 : h 91 0 = nI u) (m0 : m 205 3 = nI u) (h1 : h 91 1 = nI x) (c0 : h' 91 0 = nI (min 6 (u + 1))) (c1 : h' 91 1 = nI ((x + 1) % 6)) (c2 : ∀ j k, j < 11 → k < iv_wl (1 + j) → h' (93 + 11 * x + j) k = h (2 + j) k) (c3 : ∀ a k, 93 ≤ a → a ≤ 158 → (a < 93 + 11 * x ∨ 93 + 11 * x + 10 < a) → h' a k = h a k) (d0 : m' 205 3 = nI (min 6 (u + 1))) (d1 : ∀ k, k < 57 → m' 207 (57 * (min 6 (u + 1) - 1) + k) = m 206 k) (d2 : ∀ i, i < 57 * (min 6 (u + 1) - 1) → m' 207 i = m 207 (57 * (u + 1 - min 6 (u + 1)) + i)) (d3 : ∀ a k, 209 ≤ a → a ≤ 212 → m' a k = m a k) : iv_P2 n l h' m' := by
  obtain ⟨u', x', a, b, cc, e, f, g⟩ := q
  have hu' : u' = u := by rw [h0] at cc; rw [mj_nIeq (by omega) (by omega)] at cc; omega
  have hx' : x' = x := by rw [h1] at f; rw [mj_nIeq (by omega) (by omega)] at f; omega
  subst hu'; subst hx'
  refine ⟨min 6 (u' + 1), (x' + 1) % 6, by omega, Nat.mod_lt _ (by omega), c0, d0, c1, fun j hj => ?_⟩
  by_cases hj0 : j = 0
  · subst hj0
    have e1 : ((x' + 1) % 6 + 5 - 0) % 6 = x' := by omega
    rw [e1]
    refine iv_IR_congr hn hl (fun i k hi hk => c2 i k hi hk) (fun k hk => ?_) (fun a k h1 h2 _ => d3 a k h1 h2) (iv_X_iff.mpr hX)
    rw [show 57 * (min 6 (u' + 1) - 1 - 0) + k = 57 * (min 6 (u' + 1) - 1) + k by omega]
    exact d1 k hk
  · have e1 : ((x' + 1) % 6 + 5 - j) % 6 = (x' + 5 - (j - 1)) % 6 := by omega
    rw [e1]
    refine iv_IR_congr hn hl (fun i k hi hk => ?_) (fun k hk => ?_) (fun a k h1 h2 _ => d3 a k h1 h2) (g (j - 1) (by omega))
    · exact c3 _ k (by omega) (by omega) (by omega)
    · rw [d2 _ (by omega)]; congr 1; omega
theorem cs_undo : mj_Cs 144 159 [] := by
  intro E d w c hi hl hE hw hI
  obtain ⟨n, l, q⟩ := iv_I_un.mp hI
  obtain ⟨n10, l12, mN, mL⟩ := iv_Jn q
  obtain ⟨u, x, u6, x6, h0, m0, h1, hg⟩ := id q.2.1
  by_cases hu0 : u = 0
  · subst hu0
    refine ⟨0, w, c, hi, hl, mj_u hi 205 0 0, ?_, ?_, iv_told q, hw⟩
    · have hA : mj_dc mj_P E (d + 99) 44 [.ref 91, .ref 2] (mj_hw w c hi hl) = some (some (.int 0), mj_hw w c hi hl) := by
        have hy : (x + 5) % 6 < 6 := Nat.mod_lt _ (by omega)
        rw [e44, q44_0, h1]
        by_cases hx0 : x = 0
        · subst hx0
          rw [if_neg (by rw [mj_ez (by omega)]; omega), show (5 : Int32) = nI 5 from rfl, r44_17 (by omega), h0, if_pos (show nI 0 = 0 from rfl), r44_44]
        · rw [if_pos (by rw [mj_ez (by omega)]; exact hx0), q44_11, h1, mj_nIp (by omega), r44_17 (by omega), h0, if_pos (show nI 0 = 0 from rfl), r44_44]
      rw [e144, q144_0, hA, mj_bi_some, q144_14, mj_r0]
    · rw [e159, q159_0, m0, if_neg (fun z => z rfl), mj_r0]
  · obtain ⟨g, eg, g0, g1, g2, g3⟩ := s_goBack (E := E) (d := d + 95) (w := w) (c := c) (hi := hi) (hl := hl) x6 u6 hu0 h1 h0
    obtain ⟨f, ef, f0, f1, f2⟩ := s_undoM (E := E) (d := d + 99) (w := w) (c := c) (hi := g) (hl := hl) u6 hu0 (by rw [g3 _ _ (by omega) (by omega)]; exact m0)
    refine ⟨1, w, c, g, hl, f, ?_, ef, ?_, hw⟩
    · have e1 : mj_dc mj_P E (d + 99) 44 [.ref 91, .ref 2] (mj_hw w c hi hl) = _ := eg
      rw [e144, q144_0, e1, mj_bi_some, q144_14, mj_r1]
    · refine iv_two (n := n) (l := l) (h := g) (m := f) (fun a k ha => f2 a k (by omega) (by omega)) (fun _ _ _ _ => rfl) ?_
      refine iv_J_room q (Nat.le_refl _) (Nat.le_refl _) n10 l12 (fun a k h => g3 a k (by omega) (by omega)) (fun a k h => by rw [f2 _ _ (by omega) (by omega), g3 _ _ (by omega) (by omega)]) (fun k h => by rw [f2 _ _ (by omega) (by omega), g3 _ _ (by omega) (by omega)]) (by rw [f2 _ _ (by omega) (by omega), g3 _ _ (by omega) (by omega)]; exact mN) (by rw [f2 _ _ (by omega) (by omega), g3 _ _ (by omega) (by omega)]; exact mL) ?_ (fun k hk => by rw [f2 _ _ (by omega) (by omega), g3 _ _ (by omega) (by omega)]; exact iv_JWo q k hk) ?_ ?_
      · refine iv_X_iff.mp ?_
        have h3 := hg 0 (by omega)
        refine iv_IR_congr n10 l12 (fun i k hi hk => g2 i k hi hk) (fun k hk => ?_) (fun a k h1 h2 _ => by rw [f2 _ _ (by omega) (by omega), g3 _ _ (by omega) (by omega)]) h3
        rw [f1 k hk, g3 _ _ (by omega) (by omega)]; rfl
      · exact iv_B_congr (iv_JB q) (fun a k h1 h2 => g3 _ _ (by omega) (by omega)) (fun k => by rw [f2 _ _ (by omega) (by omega), g3 _ _ (by omega) (by omega)])
      · refine ⟨u - 1, (x + 5) % 6, by omega, Nat.mod_lt _ (by omega), g0, f0, g1, fun j hj => ?_⟩
        have e1 : ((x + 5) % 6 + 5 - j) % 6 = (x + 5 - (j + 1)) % 6 := by omega
        rw [e1]
        refine iv_IR_congr n10 l12 (fun i k hi hk => g3 _ _ (by omega) (by omega)) (fun k hk => ?_) (fun a k h1 h2 _ => by rw [f2 _ _ (by omega) (by omega), g3 _ _ (by omega) (by omega)]) (hg (j + 1) (by omega))
        rw [f2 _ _ (by omega) (by omega), g3 _ _ (by omega) (by omega)]
        congr 1; omega
