theorem cs_ranks (a : Int32) : mj_Cs 129 251 [.int a] := by
  intro E d w c hi hl hE hw hI
  obtain ⟨n', l, q⟩ := iv_I_un.mp hI
  obtain ⟨⟨t, x, y, t16, k1, k2, hxy, hst⟩, _⟩ := iv_Jth q
  have k1' : hi 34 0 = nI t := k1
  have hab : ∀ i, i < t → hi 35 i = nI (x i) ∧ hi 36 i = nI (y i) ∧ x i < 10 ∧ y i < 10 := fun i hi' => ⟨(hxy i hi').1, (hxy i hi').2.1, (hxy i hi').2.2.1, (hxy i hi').2.2.2.1⟩
  have hab2 : ∀ i, i < t → x i < 10 ∧ y i < 10 ∧ x i ≠ y i := fun i hi' => (hxy i hi').2.2
  have hab3 : ∀ i, i < t → x i < 10 ∧ y i < 10 := fun i hi' => ⟨(hxy i hi').2.2.1, (hxy i hi').2.2.2.1⟩
  obtain ⟨R, hR⟩ := wr_R (wr_C x y t) (wt x y t)
  have hT := wt_lt (a := x) (b := y) t hab3
  obtain ⟨g, eg, g0, g1, g2, g3⟩ := s_rank (E := E) (d := d + 95) (w := w) (c := c) (hi := hi) (hl := hl) (a := x) (b := y) (R := R) t16 k1' hab hR
  have eg2 : mj_dc mj_P E (d + 99) 34 [.ref 194, .ref 34] (mj_hw w c hi hl) = some (none, mj_hw w c g hl) := eg
  have g230 : ∀ (h : mj_HI), (∀ k, h 230 k = hi 230 k) → ∀ u v, u < 10 → v < 10 → h 230 (10 * u + v) = nI (iv_cnt (fun i => decide (x i = u ∧ y i = v)) t) := fun h hh u v h1 h2 => by rw [hh]; exact hst u v h1 h2
  have f0 : ∀ k, (mj_u g 205 0 0) 230 k = hi 230 k := fun k => by rw [mj_u_pt (by omega)]; exact g3 _ _ (by omega)
  have es := s_seenSet (E := E) (d := d + 98) (w := w) (c := c) (hi := mj_u g 205 0 0) (hl := hl) (a := x) (b := y) t16 hab3 (g230 _ f0)
  have es2 : mj_dc mj_P E (d + 99) 247 [.ref 205] (mj_hw w c (mj_u g 205 0 0) hl) = some (some (.int (nI (wt x y t))), mj_hw w c (mj_u g 205 0 0) hl) := es
  obtain ⟨f, ef, f1, f2⟩ := s_findsR (E := E) (d := d + 95) (w := w) (c := c) (hi := mj_u g 205 0 0) (hl := hl) (a := x) (b := y) (R := R) t16 hab2 rfl hT (g230 _ f0) hR
  have ef2 : mj_dc mj_P E (d + 99) 250 [.ref 205, .int (nI (wt x y t))] (mj_hw w c (mj_u g 205 0 0) hl) = some (none, mj_hw w c f hl) := ef
  have fr : ∀ a k, ¬ (194 ≤ a ∧ a ≤ 201) → a ≠ 231 → ¬ (a = 205 ∧ k = 0) → f a k = hi a k := fun a k h1 h2 h3 => by rw [f2 _ _ h2, mj_u_pt (by omega), g3 _ _ h1]
  have gr : ∀ a k, ¬ (194 ≤ a ∧ a ≤ 201) → ¬ (a = 205 ∧ k = 0) → (mj_u g 205 0 0) a k = hi a k := fun a k h1 h3 => by rw [mj_u_pt (by omega), g3 _ _ h1]
  have fI : iv_I f f := iv_J_same q (fun a k h => fr _ _ (by omega) (by omega) (by omega)) (fun a k h => fr _ _ (by omega) (by omega) (by omega)) (fun k h => fr _ _ (by omega) (by omega) (by omega))
  have gI : iv_I (mj_u g 205 0 0) (mj_u g 205 0 0) := iv_J_same q (fun a k h => gr _ _ (by omega) (by omega)) (fun a k h => gr _ _ (by omega) (by omega)) (fun k h => gr _ _ (by omega) (by omega))
  have f230 := g230 f (fun k => fr _ _ (by omega) (by omega) (by omega))
  have hRb := wr_bd (wr_C_bd (a := x) (b := y) t16) hR
  have hon : mj_dc mj_P E (d + 99) 156 [.ref 205, .int (nI (wt x y t))] (mj_hw w c (mj_u g 205 0 0) hl) = some (some (.int (nI (mj_pc 10 (wt x y t)))), mj_hw w c (mj_u g 205 0 0) hl) := by
    rw [← mj_pc1210 hT]; exact s_ones (d := d + 98) (by omega)
  have hSok := wo_S_ok hT (wr_ok0 (C := wr_C x y t) (R := R) (T := wt x y t)).1 (wr_ok0 (C := wr_C x y t) (R := R) (T := wt x y t)).2
  obtain ⟨T, hTe⟩ : ∃ T, T = wt x y t := ⟨_, rfl⟩
  rw [← hTe] at hR hT g0 g2 es2 ef2 hon hSok f1
  obtain ⟨C, hC⟩ : ∃ C, C = wr_C x y t := ⟨_, rfl⟩
  have hCb : ∀ s u, C s u ≤ 16 := fun s u => by rw [hC]; exact wr_C_bd t16 s u
  rw [← hC] at hR hSok g2
  obtain ⟨n, hn⟩ : ∃ n, n = mj_pc 10 T := ⟨_, rfl⟩
  have n10 : n ≤ 10 := by rw [hn]; exact iv_cnt_bd _ 10
  rw [← hn] at g0 g2 hon hSok
  by_cases h0 : a = 0
  · subst h0
    refine ⟨nI (R 0), w, c, g, hl, f, ?_, ?_, fI, hw⟩
    · simp (disch := omega) only [q129_0, q129_14, q129_22, e129, q27_0, q27_9, q27_47, q27_48, e27, ↓reduceIte, Bool.false_eq_true, eq_self, mj_10, mj_01, mj_n10, mj_0n1, mj_1n1, mj_n11, mj_bi_some, mj_bv_some, mj_bj_some, mj_br_some, mj_r0, mj_r1, mj_q0, mj_q1, mj_b01, mj_q2, if_true, if_false, mj_it, mj_if, true_and, and_true, false_and, and_false, not_true_eq_false, not_false_eq_true, true_or, or_true, false_or, or_false, mj_nIle, mj_nIlt, mj_nIeq, mj_nI0, mj_nIc, mj_nIadd, mj_nIs, mj_ez, mj_ze, mj_eo, mj_ltz, mj_lez, mj_zlt, mj_olt, mj_lto, mj_leo, mj_ole, mj_nIn, mj_nnI, nl_2, nl_3, nl_4, nl_5, nl_6, nl_7, nl_8, nl_9, nl_10, nl_11, nl_12, nl_13, nl_14, nl_15, nl_16, nl_17, nl_18, nl_19, nl_20, nl_21, nl_22, nl_23, nl_24, nl_25, nl_26, nl_27, nl_28, nl_29, nl_30, nl_32, nl_33, nl_34, nl_35, nl_36, nl_37, nl_38, nl_39, nl_40, nl_41, nl_42, nl_43, nl_44, nl_45, nl_46, nl_47, nl_48, nl_49, nl_50, nl_51, nl_52, nl_53, nl_54, nl_55, nl_56, nl_57, nl_58, nl_59, nl_60, nl_61, nl_62, nl_64, nl_65, nl_66, nl_67, nl_68, nl_69, nl_92, nl_97, nl_99, nl_100, nl_122, nl_127, nl_128, nl_131, nl_132, nl_150, nl_200, nl_255, nl_256, nl_300, nl_342, nl_380, nl_381, nl_400, nl_401, nl_420, nl_500, nl_600, nl_800, nl_999, nl_1000, nl_1023, nl_1024, nl_1200, nl_2048, nl_2100, nl_4096, nl_9999, nl_10000, nl_10240, nl_999999, nl_1000000, if_pos, if_neg, eg2, g1]
    · have f10 := f1 0 (fun i hi' => by rw [Nat.zero_testBit] at hi'; cases hi')
      simp (disch := omega) only [e251, q251_0, q251_9, q251_34, q251_39, ↓reduceIte, Bool.false_eq_true, eq_self, mj_10, mj_01, mj_n10, mj_0n1, mj_1n1, mj_n11, mj_bi_some, mj_bv_some, mj_bj_some, mj_br_some, mj_r0, mj_r1, mj_q0, mj_q1, mj_b01, mj_q2, if_true, if_false, mj_it, mj_if, true_and, and_true, false_and, and_false, not_true_eq_false, not_false_eq_true, true_or, or_true, false_or, or_false, mj_nIle, mj_nIlt, mj_nIeq, mj_nI0, mj_nIc, mj_nIadd, mj_nIs, mj_ez, mj_ze, mj_eo, mj_ltz, mj_lez, mj_zlt, mj_olt, mj_lto, mj_leo, mj_ole, mj_nIn, mj_nnI, nl_2, nl_3, nl_4, nl_5, nl_6, nl_7, nl_8, nl_9, nl_10, nl_11, nl_12, nl_13, nl_14, nl_15, nl_16, nl_17, nl_18, nl_19, nl_20, nl_21, nl_22, nl_23, nl_24, nl_25, nl_26, nl_27, nl_28, nl_29, nl_30, nl_32, nl_33, nl_34, nl_35, nl_36, nl_37, nl_38, nl_39, nl_40, nl_41, nl_42, nl_43, nl_44, nl_45, nl_46, nl_47, nl_48, nl_49, nl_50, nl_51, nl_52, nl_53, nl_54, nl_55, nl_56, nl_57, nl_58, nl_59, nl_60, nl_61, nl_62, nl_64, nl_65, nl_66, nl_67, nl_68, nl_69, nl_92, nl_97, nl_99, nl_100, nl_122, nl_127, nl_128, nl_131, nl_132, nl_150, nl_200, nl_255, nl_256, nl_300, nl_342, nl_380, nl_381, nl_400, nl_401, nl_420, nl_500, nl_600, nl_800, nl_999, nl_1000, nl_1023, nl_1024, nl_1200, nl_2048, nl_2100, nl_4096, nl_9999, nl_10000, nl_10240, nl_999999, nl_1000000, if_pos, if_neg, es2, ef2, vi_c0, mj_00, f10]
  · by_cases ha : nI 10 ≤ a ∧ a ≤ nI (9 + n)
    · obtain ⟨A, hA, rfl⟩ := mj_ofn (Int32.le_trans (by decide) ha.1)
      have hA1 : 10 ≤ A := by have := ha.1; rw [mj_nIle (by omega) hA] at this; exact this
      have hA2 : A ≤ 9 + n := by have := ha.2; rw [mj_nIle hA (by omega)] at this; exact this
      obtain ⟨K, rfl⟩ : ∃ K, A = 10 + K := ⟨A - 10, by omega⟩
      refine ⟨wz_io (wr_ix C R T (wo_S (wr_ix C R T) K)), w, c, g, hl, f, ?_, ?_, fI, hw⟩
      · have e1 : mj_dc mj_P E (d + 99) 27 [.ref 194, .int (nI (10 + K))] (mj_hw w c g hl) = _ := s_told194 (d := d + 98) (n := n) (by omega) (by omega) g0
        rw [g2 K (by omega)] at e1
        simp (disch := omega) only [q129_0, q129_14, q129_22, e129, ↓reduceIte, Bool.false_eq_true, eq_self, mj_10, mj_01, mj_n10, mj_0n1, mj_1n1, mj_n11, mj_bi_some, mj_bv_some, mj_bj_some, mj_br_some, mj_r0, mj_r1, mj_q0, mj_q1, mj_b01, mj_q2, if_true, if_false, mj_it, mj_if, true_and, and_true, false_and, and_false, not_true_eq_false, not_false_eq_true, true_or, or_true, false_or, or_false, mj_nIle, mj_nIlt, mj_nIeq, mj_nI0, mj_nIc, mj_nIadd, mj_nIs, mj_ez, mj_ze, mj_eo, mj_ltz, mj_lez, mj_zlt, mj_olt, mj_lto, mj_leo, mj_ole, mj_nIn, mj_nnI, nl_2, nl_3, nl_4, nl_5, nl_6, nl_7, nl_8, nl_9, nl_10, nl_11, nl_12, nl_13, nl_14, nl_15, nl_16, nl_17, nl_18, nl_19, nl_20, nl_21, nl_22, nl_23, nl_24, nl_25, nl_26, nl_27, nl_28, nl_29, nl_30, nl_32, nl_33, nl_34, nl_35, nl_36, nl_37, nl_38, nl_39, nl_40, nl_41, nl_42, nl_43, nl_44, nl_45, nl_46, nl_47, nl_48, nl_49, nl_50, nl_51, nl_52, nl_53, nl_54, nl_55, nl_56, nl_57, nl_58, nl_59, nl_60, nl_61, nl_62, nl_64, nl_65, nl_66, nl_67, nl_68, nl_69, nl_92, nl_97, nl_99, nl_100, nl_122, nl_127, nl_128, nl_131, nl_132, nl_150, nl_200, nl_255, nl_256, nl_300, nl_342, nl_380, nl_381, nl_400, nl_401, nl_420, nl_500, nl_600, nl_800, nl_999, nl_1000, nl_1023, nl_1024, nl_1200, nl_2048, nl_2100, nl_4096, nl_9999, nl_10000, nl_10240, nl_999999, nl_1000000, if_pos, if_neg, eg2, e1]
      · -- one step of the order
        have hstep : ∀ k, k < n → ∃ i, wr_ix C R T (wo_S (wr_ix C R T) k) = some i ∧ mj_den mj_P E (d + 99) 251 70 [.ref 205, .int (nI (10 + K)), .int (nI T), .int (nI (wo_S (wr_ix C R T) k)), .int 0, .int (nI k)] [] (mj_hw w c f hl) = mj_den mj_P E (d + 99) 251 58 [.ref 205, .int (nI (10 + K)), .int (nI T), .int (nI (wo_S (wr_ix C R T) (k + 1))), .int (nI i), .int (nI (k + 1))] [] (mj_hw w c f hl) := by
          intro k hk
          obtain ⟨hsub, hSl, _, hsome⟩ := hSok k (by omega)
          obtain ⟨i, hix⟩ := hsome hk
          obtain ⟨i1, i2, i3, i4⟩ := (wz_ix_ok _ _ 10).2 i hix
          obtain ⟨i5, i6⟩ := (wbl_clear i1).mp i2
          refine ⟨i, hix, ?_⟩
          rw [wo_S_s hix]
          have hGs := hR (wo_S (wr_ix C R T) k) (by omega)
          unfold wr_F at hGs
          rw [hix] at hGs
          have hGs : R (wo_S (wr_ix C R T) k) = wr_g C R (wo_S (wr_ix C R T) k) i := hGs
          have f1k := f1 (wo_S (wr_ix C R T) k) hsub
          generalize wo_S (wr_ix C R T) k = s at hsub hSl i2 i3 i4 i5 hGs f1k
          have hgb : ∀ u, u < 10 → (wbl T s).testBit u = false → mj_dc mj_P E (d + 99) 249 [.ref 205, .int (nI s), .int (nI u), .int (nI T)] (mj_hw w c f hl) = some (some (.int (nI (wr_g C R s u))), mj_hw w c f hl) ∧ wr_g C R s u ≤ 30000 := fun u hu hb => by
            obtain ⟨u1, u2⟩ := (wbl_clear hu).mp hb
            have hsu := mj_sub_or hsub u2
            have hle := mj_sub_le hsu
            refine ⟨by rw [hC]; exact s_rankedBy (d := d + 96) t16 hab2 hTe hT hSl hu f230 (f1 _ hsu), ?_⟩
            have h1 := hRb (s ||| 2 ^ u) (by omega)
            have h2 := hCb s u
            unfold wr_g; omega
          have hdl : mj_df T s < 1024 := mj_df_le (n := 10) _ _ hT
          have hbit : ∀ u, u < 10 → (mj_df T s).testBit u = !(wbl T s).testBit u := fun u hu => by
            rw [mj_df_bit, wbl_bit hu]
            cases T.testBit u <;> cases s.testBit u <;> rfl
          refine (lp_up (fun j => mj_den mj_P E (d + 99) 251 70 [.ref 205, .int (nI (10 + K)), .int (nI T), .int (nI s), .int (nI j), .int (nI k)] [] (mj_hw w c f hl)) i (fun j hj => ?_)).trans ?_
          · show mj_den mj_P E (d + 99) 251 70 [.ref 205, .int (nI (10 + K)), .int (nI T), .int (nI s), .int (nI j), .int (nI k)] [] (mj_hw w c f hl) = mj_den mj_P E (d + 99) 251 70 [.ref 205, .int (nI (10 + K)), .int (nI T), .int (nI s), .int (nI (j + 1)), .int (nI k)] [] (mj_hw w c f hl)
            rw [q251_70]
            have hbj := hbit j (by omega)
            by_cases hb : (wbl T s).testBit j = true
            · rw [hb] at hbj
              have hbj : (mj_df T s).testBit j = false := hbj
              simp (disch := omega) only [↓reduceIte, Bool.false_eq_true, eq_self, mj_10, mj_01, mj_n10, mj_0n1, mj_1n1, mj_n11, mj_bi_some, mj_bv_some, mj_bj_some, mj_br_some, mj_r0, mj_r1, mj_q0, mj_q1, mj_b01, mj_q2, if_true, if_false, mj_it, mj_if, true_and, and_true, false_and, and_false, not_true_eq_false, not_false_eq_true, true_or, or_true, false_or, or_false, mj_nIle, mj_nIlt, mj_nIeq, mj_nI0, mj_nIc, mj_nIadd, mj_nIs, mj_ez, mj_ze, mj_eo, mj_ltz, mj_lez, mj_zlt, mj_olt, mj_lto, mj_leo, mj_ole, mj_nIn, mj_nnI, nl_2, nl_3, nl_4, nl_5, nl_6, nl_7, nl_8, nl_9, nl_10, nl_11, nl_12, nl_13, nl_14, nl_15, nl_16, nl_17, nl_18, nl_19, nl_20, nl_21, nl_22, nl_23, nl_24, nl_25, nl_26, nl_27, nl_28, nl_29, nl_30, nl_32, nl_33, nl_34, nl_35, nl_36, nl_37, nl_38, nl_39, nl_40, nl_41, nl_42, nl_43, nl_44, nl_45, nl_46, nl_47, nl_48, nl_49, nl_50, nl_51, nl_52, nl_53, nl_54, nl_55, nl_56, nl_57, nl_58, nl_59, nl_60, nl_61, nl_62, nl_64, nl_65, nl_66, nl_67, nl_68, nl_69, nl_92, nl_97, nl_99, nl_100, nl_122, nl_127, nl_128, nl_131, nl_132, nl_150, nl_200, nl_255, nl_256, nl_300, nl_342, nl_380, nl_381, nl_400, nl_401, nl_420, nl_500, nl_600, nl_800, nl_999, nl_1000, nl_1023, nl_1024, nl_1200, nl_2048, nl_2100, nl_4096, nl_9999, nl_10000, nl_10240, nl_999999, nl_1000000, if_pos, if_neg, bx_df, s_hM, hbj, q251_81, q251_101]
            · have hb2 : (wbl T s).testBit j = false := by simpa using hb
              rw [hb2] at hbj
              have hbj : (mj_df T s).testBit j = true := hbj
              obtain ⟨eb, bb⟩ := hgb j (by omega) hb2
              obtain ⟨_, bi⟩ := hgb i i1 i2
              have hlt := i3 j hj hb2
              have hne : ¬ wr_g C R s j = R s := by rw [hGs]; omega
              have hGsb : R s ≤ 30000 := by rw [hGs]; exact bi
              simp (disch := omega) only [↓reduceIte, Bool.false_eq_true, eq_self, mj_10, mj_01, mj_n10, mj_0n1, mj_1n1, mj_n11, mj_bi_some, mj_bv_some, mj_bj_some, mj_br_some, mj_r0, mj_r1, mj_q0, mj_q1, mj_b01, mj_q2, if_true, if_false, mj_it, mj_if, true_and, and_true, false_and, and_false, not_true_eq_false, not_false_eq_true, true_or, or_true, false_or, or_false, mj_nIle, mj_nIlt, mj_nIeq, mj_nI0, mj_nIc, mj_nIadd, mj_nIs, mj_ez, mj_ze, mj_eo, mj_ltz, mj_lez, mj_zlt, mj_olt, mj_lto, mj_leo, mj_ole, mj_nIn, mj_nnI, nl_2, nl_3, nl_4, nl_5, nl_6, nl_7, nl_8, nl_9, nl_10, nl_11, nl_12, nl_13, nl_14, nl_15, nl_16, nl_17, nl_18, nl_19, nl_20, nl_21, nl_22, nl_23, nl_24, nl_25, nl_26, nl_27, nl_28, nl_29, nl_30, nl_32, nl_33, nl_34, nl_35, nl_36, nl_37, nl_38, nl_39, nl_40, nl_41, nl_42, nl_43, nl_44, nl_45, nl_46, nl_47, nl_48, nl_49, nl_50, nl_51, nl_52, nl_53, nl_54, nl_55, nl_56, nl_57, nl_58, nl_59, nl_60, nl_61, nl_62, nl_64, nl_65, nl_66, nl_67, nl_68, nl_69, nl_92, nl_97, nl_99, nl_100, nl_122, nl_127, nl_128, nl_131, nl_132, nl_150, nl_200, nl_255, nl_256, nl_300, nl_342, nl_380, nl_381, nl_400, nl_401, nl_420, nl_500, nl_600, nl_800, nl_999, nl_1000, nl_1023, nl_1024, nl_1200, nl_2048, nl_2100, nl_4096, nl_9999, nl_10000, nl_10240, nl_999999, nl_1000000, if_pos, if_neg, bx_df, s_hM, hbj, q251_81, eb, q251_92, f1k, hne, q251_101]
          · show mj_den mj_P E (d + 99) 251 70 [.ref 205, .int (nI (10 + K)), .int (nI T), .int (nI s), .int (nI i), .int (nI k)] [] (mj_hw w c f hl) = _
            obtain ⟨eb, bb⟩ := hgb i i1 i2
            have hbj := hbit i i1
            rw [i2] at hbj
            have hbj : (mj_df T s).testBit i = true := hbj
            rw [q251_70]
            simp (disch := omega) only [↓reduceIte, Bool.false_eq_true, eq_self, mj_10, mj_01, mj_n10, mj_0n1, mj_1n1, mj_n11, mj_bi_some, mj_bv_some, mj_bj_some, mj_br_some, mj_r0, mj_r1, mj_q0, mj_q1, mj_b01, mj_q2, if_true, if_false, mj_it, mj_if, true_and, and_true, false_and, and_false, not_true_eq_false, not_false_eq_true, true_or, or_true, false_or, or_false, mj_nIle, mj_nIlt, mj_nIeq, mj_nI0, mj_nIc, mj_nIadd, mj_nIs, mj_ez, mj_ze, mj_eo, mj_ltz, mj_lez, mj_zlt, mj_olt, mj_lto, mj_leo, mj_ole, mj_nIn, mj_nnI, nl_2, nl_3, nl_4, nl_5, nl_6, nl_7, nl_8, nl_9, nl_10, nl_11, nl_12, nl_13, nl_14, nl_15, nl_16, nl_17, nl_18, nl_19, nl_20, nl_21, nl_22, nl_23, nl_24, nl_25, nl_26, nl_27, nl_28, nl_29, nl_30, nl_32, nl_33, nl_34, nl_35, nl_36, nl_37, nl_38, nl_39, nl_40, nl_41, nl_42, nl_43, nl_44, nl_45, nl_46, nl_47, nl_48, nl_49, nl_50, nl_51, nl_52, nl_53, nl_54, nl_55, nl_56, nl_57, nl_58, nl_59, nl_60, nl_61, nl_62, nl_64, nl_65, nl_66, nl_67, nl_68, nl_69, nl_92, nl_97, nl_99, nl_100, nl_122, nl_127, nl_128, nl_131, nl_132, nl_150, nl_200, nl_255, nl_256, nl_300, nl_342, nl_380, nl_381, nl_400, nl_401, nl_420, nl_500, nl_600, nl_800, nl_999, nl_1000, nl_1023, nl_1024, nl_1200, nl_2048, nl_2100, nl_4096, nl_9999, nl_10000, nl_10240, nl_999999, nl_1000000, if_pos, if_neg, bx_df, s_hM, hbj, q251_81, eb, q251_92, f1k, hGs, q251_110, bx_one, bx_or]
        have hE1 : nI (10 + K) - nI 10 = nI K := by rw [mj_nIsub (by omega)]; congr 1; omega
        have hin2 : (nI 10 ≤ nI (10 + K) ∧ nI (10 + K) ≤ nI 9 + nI n) := by rw [mj_nIadd]; exact ha
        have key := lp_ex (fun k (v3 : Int32) => mj_den mj_P E (d + 99) 251 58 [.ref 205, .int (nI (10 + K)), .int (nI T), .int (nI (wo_S (wr_ix C R T) k)), .int v3, .int (nI k)] [] (mj_hw w c f hl)) (fun k v3 => k ≠ 0 → v3 = wz_io (wr_ix C R T (wo_S (wr_ix C R T) (k - 1)))) (K + 1) (fun k v3 hk _ => ?_) (-1) (fun z => absurd rfl z)
        · obtain ⟨v3, e3, hv3⟩ := key
          have hv3 := hv3 (by omega)
          rw [show K + 1 - 1 = K by omega] at hv3
          subst hv3
          simp (disch := omega) only [e251, q251_0, q251_9, q251_25, q251_29, q251_34, q251_39, q251_50, s_isIn, ↓reduceIte, Bool.false_eq_true, eq_self, mj_10, mj_01, mj_n10, mj_0n1, mj_1n1, mj_n11, mj_bi_some, mj_bv_some, mj_bj_some, mj_br_some, mj_r0, mj_r1, mj_q0, mj_q1, mj_b01, mj_q2, if_true, if_false, mj_it, mj_if, true_and, and_true, false_and, and_false, not_true_eq_false, not_false_eq_true, true_or, or_true, false_or, or_false, mj_nIle, mj_nIlt, mj_nIeq, mj_nI0, mj_nIc, mj_nIadd, mj_nIs, mj_ez, mj_ze, mj_eo, mj_ltz, mj_lez, mj_zlt, mj_olt, mj_lto, mj_leo, mj_ole, mj_nIn, mj_nnI, nl_2, nl_3, nl_4, nl_5, nl_6, nl_7, nl_8, nl_9, nl_10, nl_11, nl_12, nl_13, nl_14, nl_15, nl_16, nl_17, nl_18, nl_19, nl_20, nl_21, nl_22, nl_23, nl_24, nl_25, nl_26, nl_27, nl_28, nl_29, nl_30, nl_32, nl_33, nl_34, nl_35, nl_36, nl_37, nl_38, nl_39, nl_40, nl_41, nl_42, nl_43, nl_44, nl_45, nl_46, nl_47, nl_48, nl_49, nl_50, nl_51, nl_52, nl_53, nl_54, nl_55, nl_56, nl_57, nl_58, nl_59, nl_60, nl_61, nl_62, nl_64, nl_65, nl_66, nl_67, nl_68, nl_69, nl_92, nl_97, nl_99, nl_100, nl_122, nl_127, nl_128, nl_131, nl_132, nl_150, nl_200, nl_255, nl_256, nl_300, nl_342, nl_380, nl_381, nl_400, nl_401, nl_420, nl_500, nl_600, nl_800, nl_999, nl_1000, nl_1023, nl_1024, nl_1200, nl_2048, nl_2100, nl_4096, nl_9999, nl_10000, nl_10240, nl_999999, nl_1000000, if_pos, if_neg, h0, es2, hon, hin2, mj_bt, ef2]
          refine Eq.trans e3 ?_
          show mj_den mj_P E (d + 99) 251 58 [.ref 205, .int (nI (10 + K)), .int (nI T), .int (nI (wo_S (wr_ix C R T) (K + 1))), .int (wz_io (wr_ix C R T (wo_S (wr_ix C R T) K))), .int (nI (K + 1))] [] (mj_hw w c f hl) = _
          rw [q251_58, nl_10, hE1, if_pos (by rw [mj_nIlt (by omega) (by omega)]; omega), q251_123]
        · obtain ⟨i, hi1, hi2⟩ := hstep k (by omega)
          refine ⟨nI i, ?_, fun _ => by rw [show k + 1 - 1 = k by omega, hi1]; rfl⟩
          show mj_den mj_P E (d + 99) 251 58 [.ref 205, .int (nI (10 + K)), .int (nI T), .int (nI (wo_S (wr_ix C R T) k)), .int v3, .int (nI k)] [] (mj_hw w c f hl) = _
          rw [q251_58, nl_10, hE1, if_neg (by rw [mj_nIlt (by omega) (by omega)]; omega)]
          exact hi2
    · refine ⟨-1, w, c, g, hl, mj_u g 205 0 0, ?_, ?_, gI, hw⟩
      · have e1 : mj_dc mj_P E (d + 99) 27 [.ref 194, .int a] (mj_hw w c g hl) = _ := s_told194n (d := d + 98) (n := n) (by omega) h0 ha g0
        simp (disch := omega) only [q129_0, q129_14, q129_22, e129, ↓reduceIte, Bool.false_eq_true, eq_self, mj_10, mj_01, mj_n10, mj_0n1, mj_1n1, mj_n11, mj_bi_some, mj_bv_some, mj_bj_some, mj_br_some, mj_r0, mj_r1, mj_q0, mj_q1, mj_b01, mj_q2, if_true, if_false, mj_it, mj_if, true_and, and_true, false_and, and_false, not_true_eq_false, not_false_eq_true, true_or, or_true, false_or, or_false, mj_nIle, mj_nIlt, mj_nIeq, mj_nI0, mj_nIc, mj_nIadd, mj_nIs, mj_ez, mj_ze, mj_eo, mj_ltz, mj_lez, mj_zlt, mj_olt, mj_lto, mj_leo, mj_ole, mj_nIn, mj_nnI, nl_2, nl_3, nl_4, nl_5, nl_6, nl_7, nl_8, nl_9, nl_10, nl_11, nl_12, nl_13, nl_14, nl_15, nl_16, nl_17, nl_18, nl_19, nl_20, nl_21, nl_22, nl_23, nl_24, nl_25, nl_26, nl_27, nl_28, nl_29, nl_30, nl_32, nl_33, nl_34, nl_35, nl_36, nl_37, nl_38, nl_39, nl_40, nl_41, nl_42, nl_43, nl_44, nl_45, nl_46, nl_47, nl_48, nl_49, nl_50, nl_51, nl_52, nl_53, nl_54, nl_55, nl_56, nl_57, nl_58, nl_59, nl_60, nl_61, nl_62, nl_64, nl_65, nl_66, nl_67, nl_68, nl_69, nl_92, nl_97, nl_99, nl_100, nl_122, nl_127, nl_128, nl_131, nl_132, nl_150, nl_200, nl_255, nl_256, nl_300, nl_342, nl_380, nl_381, nl_400, nl_401, nl_420, nl_500, nl_600, nl_800, nl_999, nl_1000, nl_1023, nl_1024, nl_1200, nl_2048, nl_2100, nl_4096, nl_9999, nl_10000, nl_10240, nl_999999, nl_1000000, if_pos, if_neg, eg2, e1]
      · have ha2 : ¬ (nI 10 ≤ a ∧ a ≤ nI 9 + nI n) := by rw [mj_nIadd]; exact ha
        simp (disch := omega) only [e251, q251_0, q251_9, q251_25, q251_29, s_isIn, ↓reduceIte, Bool.false_eq_true, eq_self, mj_10, mj_01, mj_n10, mj_0n1, mj_1n1, mj_n11, mj_bi_some, mj_bv_some, mj_bj_some, mj_br_some, mj_r0, mj_r1, mj_q0, mj_q1, mj_b01, mj_q2, if_true, if_false, mj_it, mj_if, true_and, and_true, false_and, and_false, not_true_eq_false, not_false_eq_true, true_or, or_true, false_or, or_false, mj_nIle, mj_nIlt, mj_nIeq, mj_nI0, mj_nIc, mj_nIadd, mj_nIs, mj_ez, mj_ze, mj_eo, mj_ltz, mj_lez, mj_zlt, mj_olt, mj_lto, mj_leo, mj_ole, mj_nIn, mj_nnI, nl_2, nl_3, nl_4, nl_5, nl_6, nl_7, nl_8, nl_9, nl_10, nl_11, nl_12, nl_13, nl_14, nl_15, nl_16, nl_17, nl_18, nl_19, nl_20, nl_21, nl_22, nl_23, nl_24, nl_25, nl_26, nl_27, nl_28, nl_29, nl_30, nl_32, nl_33, nl_34, nl_35, nl_36, nl_37, nl_38, nl_39, nl_40, nl_41, nl_42, nl_43, nl_44, nl_45, nl_46, nl_47, nl_48, nl_49, nl_50, nl_51, nl_52, nl_53, nl_54, nl_55, nl_56, nl_57, nl_58, nl_59, nl_60, nl_61, nl_62, nl_64, nl_65, nl_66, nl_67, nl_68, nl_69, nl_92, nl_97, nl_99, nl_100, nl_122, nl_127, nl_128, nl_131, nl_132, nl_150, nl_200, nl_255, nl_256, nl_300, nl_342, nl_380, nl_381, nl_400, nl_401, nl_420, nl_500, nl_600, nl_800, nl_999, nl_1000, nl_1023, nl_1024, nl_1200, nl_2048, nl_2100, nl_4096, nl_9999, nl_10000, nl_10240, nl_999999, nl_1000000, if_pos, if_neg, h0, es2, hon, ha2]
