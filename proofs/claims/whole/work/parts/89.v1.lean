section MJ89x
variable {E : mj_E} {d w c : Nat} {hi : mj_HI} {hl : Nat → Nat → Int64}
/-- the reference begins to think -/
theorem s_think : ∃ g : mj_HI, mj_dc mj_P E (d + 1) 160 [.ref 205] (mj_hw w c hi hl) = some (none, mj_hw w c g hl) ∧ (∀ k, k < 57 → g 208 k = hi 206 k) ∧ g 205 5 = 1 ∧ ∀ a k, a ≠ 208 → ¬ (a = 205 ∧ k = 5) → g a k = hi a k := by
  have key := lp_ex (fun k (h : mj_HI) => mj_den mj_P E d 160 2 [.ref 205, .int (nI k)] [] (mj_hw w c h hl)) (fun k h => (∀ j, j < k → h 208 j = hi 206 j) ∧ ∀ a j, a ≠ 208 → h a j = hi a j) 57 (fun k h hk hI => ?_) hi ⟨fun j hj => absurd hj (by omega), fun _ _ _ => rfl⟩
  · obtain ⟨g, e, i1, i2⟩ := key
    have e' : mj_den mj_P E d 160 2 [.ref 205, .int 0] [] (mj_hw w c hi hl) = mj_den mj_P E d 160 2 [.ref 205, .int (nI 57)] [] (mj_hw w c g hl) := e
    refine ⟨mj_u g 205 5 1, ?_, fun k hk => by rw [mj_u_pt (by omega)]; exact i1 k hk, mj_u_eq, fun a k h1 h2 => by rw [mj_u_pt (by omega)]; exact i2 a k h1⟩
    simp (disch := omega) only [e160, q160_0]
    rw [e', q160_2]
    simp (disch := omega) only [q160_26, ↓reduceIte, Bool.false_eq_true, eq_self, mj_10, mj_01, mj_n10, mj_0n1, mj_1n1, mj_n11, mj_bi_some, mj_bv_some, mj_bj_some, mj_br_some, mj_r0, mj_r1, mj_q0, mj_q1, mj_b01, mj_q2, if_true, if_false, mj_it, mj_if, true_and, and_true, false_and, and_false, not_true_eq_false, not_false_eq_true, true_or, or_true, false_or, or_false, mj_nIle, mj_nIlt, mj_nIeq, mj_nI0, mj_nIc, mj_nIadd, mj_nIs, mj_ez, mj_ze, mj_eo, mj_ltz, mj_lez, mj_zlt, mj_olt, mj_lto, mj_leo, mj_ole, mj_nIn, mj_nnI, nl_2, nl_3, nl_4, nl_5, nl_6, nl_7, nl_8, nl_9, nl_10, nl_11, nl_12, nl_13, nl_14, nl_15, nl_16, nl_17, nl_18, nl_19, nl_20, nl_21, nl_22, nl_23, nl_24, nl_25, nl_26, nl_27, nl_28, nl_29, nl_30, nl_32, nl_33, nl_34, nl_35, nl_36, nl_37, nl_38, nl_39, nl_40, nl_41, nl_42, nl_43, nl_44, nl_45, nl_46, nl_47, nl_48, nl_49, nl_50, nl_51, nl_52, nl_53, nl_54, nl_55, nl_56, nl_57, nl_58, nl_59, nl_60, nl_61, nl_62, nl_64, nl_65, nl_66, nl_67, nl_68, nl_69, nl_92, nl_97, nl_99, nl_100, nl_122, nl_127, nl_128, nl_131, nl_132, nl_150, nl_200, nl_255, nl_256, nl_300, nl_342, nl_380, nl_381, nl_400, nl_401, nl_420, nl_500, nl_600, nl_800, nl_999, nl_1000, nl_1023, nl_1024, nl_1200, nl_2048, nl_2100, nl_4096, nl_9999, nl_10000, nl_10240, nl_999999, nl_1000000, if_pos, if_neg, Nat.le_refl]
  · obtain ⟨i1, i2⟩ := hI
    refine ⟨mj_u h 208 k (h 206 k), ?_, fun j hj => ?_, fun a j ha => by rw [mj_u_pt (by omega)]; exact i2 a j ha⟩
    · show mj_den mj_P E d 160 2 [.ref 205, .int (nI k)] [] (mj_hw w c h hl) = mj_den mj_P E d 160 2 [.ref 205, .int (nI (k + 1))] [] (mj_hw w c (mj_u h 208 k (h 206 k)) hl)
      have n57 : ¬ 57 ≤ k := by omega
      rw [q160_2]
      simp (disch := omega) only [↓reduceIte, Bool.false_eq_true, eq_self, mj_10, mj_01, mj_n10, mj_0n1, mj_1n1, mj_n11, mj_bi_some, mj_bv_some, mj_bj_some, mj_br_some, mj_r0, mj_r1, mj_q0, mj_q1, mj_b01, mj_q2, if_true, if_false, mj_it, mj_if, true_and, and_true, false_and, and_false, not_true_eq_false, not_false_eq_true, true_or, or_true, false_or, or_false, mj_nIle, mj_nIlt, mj_nIeq, mj_nI0, mj_nIc, mj_nIadd, mj_nIs, mj_ez, mj_ze, mj_eo, mj_ltz, mj_lez, mj_zlt, mj_olt, mj_lto, mj_leo, mj_ole, mj_nIn, mj_nnI, nl_2, nl_3, nl_4, nl_5, nl_6, nl_7, nl_8, nl_9, nl_10, nl_11, nl_12, nl_13, nl_14, nl_15, nl_16, nl_17, nl_18, nl_19, nl_20, nl_21, nl_22, nl_23, nl_24, nl_25, nl_26, nl_27, nl_28, nl_29, nl_30, nl_32, nl_33, nl_34, nl_35, nl_36, nl_37, nl_38, nl_39, nl_40, nl_41, nl_42, nl_43, nl_44, nl_45, nl_46, nl_47, nl_48, nl_49, nl_50, nl_51, nl_52, nl_53, nl_54, nl_55, nl_56, nl_57, nl_58, nl_59, nl_60, nl_61, nl_62, nl_64, nl_65, nl_66, nl_67, nl_68, nl_69, nl_92, nl_97, nl_99, nl_100, nl_122, nl_127, nl_128, nl_131, nl_132, nl_150, nl_200, nl_255, nl_256, nl_300, nl_342, nl_380, nl_381, nl_400, nl_401, nl_420, nl_500, nl_600, nl_800, nl_999, nl_1000, nl_1023, nl_1024, nl_1200, nl_2048, nl_2100, nl_4096, nl_9999, nl_10000, nl_10240, nl_999999, nl_1000000, if_pos, if_neg, hk, n57]
    · by_cases hjk : j = k
      · subst hjk; rw [mj_u_eq]; exact i2 _ _ (by omega)
      · rw [mj_u_pt (by omega)]; exact i1 j (by omega)
/-- and ends -/
theorem s_thunk : ∃ g : mj_HI, mj_dc mj_P E (d + 1) 161 [.ref 205] (mj_hw w c hi hl) = some (none, mj_hw w c g hl) ∧ (∀ k, k < 57 → g 206 k = hi 208 k) ∧ g 205 5 = 0 ∧ ∀ a k, a ≠ 206 → ¬ (a = 205 ∧ k = 5) → g a k = hi a k := by
  have key := lp_ex (fun k (h : mj_HI) => mj_den mj_P E d 161 2 [.ref 205, .int (nI k)] [] (mj_hw w c h hl)) (fun k h => (∀ j, j < k → h 206 j = hi 208 j) ∧ ∀ a j, a ≠ 206 → h a j = hi a j) 57 (fun k h hk hI => ?_) hi ⟨fun j hj => absurd hj (by omega), fun _ _ _ => rfl⟩
  · obtain ⟨g, e, i1, i2⟩ := key
    have e' : mj_den mj_P E d 161 2 [.ref 205, .int 0] [] (mj_hw w c hi hl) = mj_den mj_P E d 161 2 [.ref 205, .int (nI 57)] [] (mj_hw w c g hl) := e
    refine ⟨mj_u g 205 5 0, ?_, fun k hk => by rw [mj_u_pt (by omega)]; exact i1 k hk, mj_u_eq, fun a k h1 h2 => by rw [mj_u_pt (by omega)]; exact i2 a k h1⟩
    simp (disch := omega) only [e161, q161_0]
    rw [e', q161_2]
    simp (disch := omega) only [q161_26, ↓reduceIte, Bool.false_eq_true, eq_self, mj_10, mj_01, mj_n10, mj_0n1, mj_1n1, mj_n11, mj_bi_some, mj_bv_some, mj_bj_some, mj_br_some, mj_r0, mj_r1, mj_q0, mj_q1, mj_b01, mj_q2, if_true, if_false, mj_it, mj_if, true_and, and_true, false_and, and_false, not_true_eq_false, not_false_eq_true, true_or, or_true, false_or, or_false, mj_nIle, mj_nIlt, mj_nIeq, mj_nI0, mj_nIc, mj_nIadd, mj_nIs, mj_ez, mj_ze, mj_eo, mj_ltz, mj_lez, mj_zlt, mj_olt, mj_lto, mj_leo, mj_ole, mj_nIn, mj_nnI, nl_2, nl_3, nl_4, nl_5, nl_6, nl_7, nl_8, nl_9, nl_10, nl_11, nl_12, nl_13, nl_14, nl_15, nl_16, nl_17, nl_18, nl_19, nl_20, nl_21, nl_22, nl_23, nl_24, nl_25, nl_26, nl_27, nl_28, nl_29, nl_30, nl_32, nl_33, nl_34, nl_35, nl_36, nl_37, nl_38, nl_39, nl_40, nl_41, nl_42, nl_43, nl_44, nl_45, nl_46, nl_47, nl_48, nl_49, nl_50, nl_51, nl_52, nl_53, nl_54, nl_55, nl_56, nl_57, nl_58, nl_59, nl_60, nl_61, nl_62, nl_64, nl_65, nl_66, nl_67, nl_68, nl_69, nl_92, nl_97, nl_99, nl_100, nl_122, nl_127, nl_128, nl_131, nl_132, nl_150, nl_200, nl_255, nl_256, nl_300, nl_342, nl_380, nl_381, nl_400, nl_401, nl_420, nl_500, nl_600, nl_800, nl_999, nl_1000, nl_1023, nl_1024, nl_1200, nl_2048, nl_2100, nl_4096, nl_9999, nl_10000, nl_10240, nl_999999, nl_1000000, if_pos, if_neg, Nat.le_refl]
  · obtain ⟨i1, i2⟩ := hI
    refine ⟨mj_u h 206 k (h 208 k), ?_, fun j hj => ?_, fun a j ha => by rw [mj_u_pt (by omega)]; exact i2 a j ha⟩
    · show mj_den mj_P E d 161 2 [.ref 205, .int (nI k)] [] (mj_hw w c h hl) = mj_den mj_P E d 161 2 [.ref 205, .int (nI (k + 1))] [] (mj_hw w c (mj_u h 206 k (h 208 k)) hl)
      have n57 : ¬ 57 ≤ k := by omega
      rw [q161_2]
      simp (disch := omega) only [↓reduceIte, Bool.false_eq_true, eq_self, mj_10, mj_01, mj_n10, mj_0n1, mj_1n1, mj_n11, mj_bi_some, mj_bv_some, mj_bj_some, mj_br_some, mj_r0, mj_r1, mj_q0, mj_q1, mj_b01, mj_q2, if_true, if_false, mj_it, mj_if, true_and, and_true, false_and, and_false, not_true_eq_false, not_false_eq_true, true_or, or_true, false_or, or_false, mj_nIle, mj_nIlt, mj_nIeq, mj_nI0, mj_nIc, mj_nIadd, mj_nIs, mj_ez, mj_ze, mj_eo, mj_ltz, mj_lez, mj_zlt, mj_olt, mj_lto, mj_leo, mj_ole, mj_nIn, mj_nnI, nl_2, nl_3, nl_4, nl_5, nl_6, nl_7, nl_8, nl_9, nl_10, nl_11, nl_12, nl_13, nl_14, nl_15, nl_16, nl_17, nl_18, nl_19, nl_20, nl_21, nl_22, nl_23, nl_24, nl_25, nl_26, nl_27, nl_28, nl_29, nl_30, nl_32, nl_33, nl_34, nl_35, nl_36, nl_37, nl_38, nl_39, nl_40, nl_41, nl_42, nl_43, nl_44, nl_45, nl_46, nl_47, nl_48, nl_49, nl_50, nl_51, nl_52, nl_53, nl_54, nl_55, nl_56, nl_57, nl_58, nl_59, nl_60, nl_61, nl_62, nl_64, nl_65, nl_66, nl_67, nl_68, nl_69, nl_92, nl_97, nl_99, nl_100, nl_122, nl_127, nl_128, nl_131, nl_132, nl_150, nl_200, nl_255, nl_256, nl_300, nl_342, nl_380, nl_381, nl_400, nl_401, nl_420, nl_500, nl_600, nl_800, nl_999, nl_1000, nl_1023, nl_1024, nl_1200, nl_2048, nl_2100, nl_4096, nl_9999, nl_10000, nl_10240, nl_999999, nl_1000000, if_pos, if_neg, hk, n57]
    · by_cases hjk : j = k
      · subst hjk; rw [mj_u_eq]; exact i2 _ _ (by omega)
      · rw [mj_u_pt (by omega)]; exact i1 j (by omega)
end MJ89x
/-- nothing that the invariant looks at has changed, the row now up to its length -/
theorem iv_J_same57 {n l : Nat} {h h' m m' : mj_HI} (q : iv_J n l h m) (c : ∀ a k, (a < 20 ∨ (22 ≤ a ∧ a ≤ 158) ∨ a = 159 ∨ a = 173 ∨ a = 203) → h' a k = h a k) (m1 : ∀ a k, ((a = 206 ∧ k < 57) ∨ a = 207 ∨ (209 ≤ a ∧ a ≤ 222) ∨ (224 ≤ a ∧ a ≤ 226) ∨ a = 230 ∨ (232 ≤ a ∧ a ≤ 235) ∨ a = 237 ∨ a = 241) → m' a k = m a k) (m5 : ∀ k, (k = 3 ∨ k = 5 ∨ k = 6 ∨ k = 7 ∨ k = 14 ∨ k = 34 ∨ k = 35 ∨ k = 36 ∨ k = 38 ∨ k = 40 ∨ k = 48 ∨ k = 51 ∨ k = 54 ∨ k = 58 ∨ k = 64) → m' 205 k = m 205 k) : iv_I h' m' := by
  refine iv_I_congr (fun a k p => ?_) (fun a k p => ?_) (iv_I_un.mpr ⟨n, l, q⟩)
  · rcases p with p | p | p | p | p | p | p
    · by_cases h2 : a = 20 ∨ a = 21
      · exfalso
        have h3 := p.2.2
        rcases h2 with rfl | rfl
        · simp [iv_pw, iv_wl] at h3
        · simp [iv_pw, iv_wl] at h3
      · exact c a k (by omega)
    all_goals exact c a k (by omega)
  · unfold iv_lm at p
    rcases p with p | p
    · unfold iv_pm at p
      have p := of_decide_eq_true p
      rcases p with p | p
      · refine m1 a k ?_
        unfold iv_ml at p
        split at p <;> omega
      · obtain ⟨rfl, p⟩ := p
        exact m5 k (by omega)
    · by_cases h2 : a = 205
      · subst h2; exact m5 k (by omega)
      · exact m1 a k (by omega)
theorem au_KM_th {n l L len s p : Nat} {cb cw cc y f t : Nat → Nat} {ops args kd wds : Nat → Int32} {h m : mj_HI} (q : au_KM 2 n l L len s p cb cw cc y f t ops args kd wds h) (h5 : m 205 5 = 1) (e : ∀ a k, 205 ≤ a → a ≠ 208 → ¬ (a = 205 ∧ (k = 5 ∨ k = 0)) → m a k = h a k) : au_KM 177 n l L len s p cb cw cc y f t ops args kd wds m := by
  obtain ⟨q1, q2, q3, q4, ⟨q5, q6, q7⟩, q8⟩ := q
  have e224 : (fun k => m 224 (2 * k)) = (fun k => h 224 (2 * k)) := funext (fun k => e _ _ (by omega) (by omega) (by omega))
  refine ⟨h5, ?_, ?_, wl_M_congr q4 (fun a k z1 z2 => e _ _ (by omega) (by omega) (by omega)), ⟨?_, fun i hi' => ?_, fun k => ?_⟩, fun k hk => ?_⟩
  · rw [e _ _ (by omega) (by omega) (by omega)]; exact q2
  · rw [e _ _ (by omega) (by omega) (by omega)]; exact q3
  · rw [e _ _ (by omega) (by omega) (by omega)]; exact q5
  · rw [e _ _ (by omega) (by omega) (by omega)]; exact q6 i hi'
  · rw [e224]; exact q7 k
  · rw [e _ _ (by omega) (by omega) (by omega)]; exact q8 k hk
