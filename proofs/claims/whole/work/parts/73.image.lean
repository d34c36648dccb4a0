theorem s_w288 {E : mj_E} {d w c : Nat} {hl : Nat → Nat → Int64} {s : Bool} {h0 h : mj_HI} (q : wi_R s 66 h0 h) : ∃ h', mj_dc mj_P E (d + 2) 288 [.ref 205] (mj_hw w c h hl) = some (none, mj_hw w c h' hl) ∧ wi_R s 340 h0 h' := by
  obtain ⟨g1, e1, q1⟩ := s_w288a (E := E) (d := d) (w := w) (c := c) (hl := hl) q
  obtain ⟨g2, e2, q2⟩ := s_w288b (E := E) (d := d) (w := w) (c := c) (hl := hl) q1
  obtain ⟨g3, e3, q3⟩ := s_w288c (E := E) (d := d) (w := w) (c := c) (hl := hl) q2
  obtain ⟨g4, e4, q4⟩ := s_w288d (E := E) (d := d) (w := w) (c := c) (hl := hl) q3
  obtain ⟨g5, e5, q5⟩ := s_w288e (E := E) (d := d) (w := w) (c := c) (hl := hl) q4
  obtain ⟨g6, e6, q6⟩ := s_w288f (E := E) (d := d) (w := w) (c := c) (hl := hl) q5
  obtain ⟨g7, e7, q7⟩ := s_w288g (E := E) (d := d) (w := w) (c := c) (hl := hl) q6
  obtain ⟨g8, e8, q8⟩ := s_w288h (E := E) (d := d) (w := w) (c := c) (hl := hl) q7
  refine ⟨g8, ?_, q8⟩
  rw [e288, q288_0, e1, q288_62, e2, q288_124, e3, q288_154, e4, q288_184, e5, q288_230, e6, q288_260, e7, q288_290, e8, q288_320]
theorem s_w286 {E : mj_E} {d w c : Nat} {hl : Nat → Nat → Int64} {s : Bool} {h0 h : mj_HI} (q : wi_R s 940 h0 h) : ∃ h', mj_dc mj_P E (d + 2) 286 [.ref 205] (mj_hw w c h hl) = some (none, mj_hw w c h' hl) ∧ wi_R s 1805 h0 h' := by
  obtain ⟨x1, g1, e1, f1, q1⟩ := s_swap (E := E) (d := d) (w := w) (c := c) (hl := hl) (a := 216) (k := 0) (by omega) rfl q
  have e1 := e1 _ rfl
  obtain ⟨g2, e2, q2⟩ := s_w286a (E := E) (d := d) (w := w) (c := c) (hl := hl) q1
  obtain ⟨g3, e3, q3⟩ := s_w286b (E := E) (d := d) (w := w) (c := c) (hl := hl) q2
  refine ⟨g3, ?_, q3⟩
  have c0 : ((0 : Int32) ≤ 0 ∧ (0 : Int32).toNatClampNeg < 2) := by decide
  have c1 : (0 : Int32).toNatClampNeg = 0 := by decide
  rw [e286, q286_0, if_pos c0, c1, e1, mj_bi_some, q286_15, if_pos c0, c1, e2, q286_94, e3, q286_141]
theorem s_w289 {E : mj_E} {d w c : Nat} {hl : Nat → Nat → Int64} {s : Bool} {v1 : Int32} {h0 h : mj_HI} (q : wi_R s 0 h0 h) : ∃ h' v2, mj_den mj_P E (d + 2) 289 35 [.ref 205, .int v1, .int 0] [] (mj_hw w c h hl) = mj_den mj_P E (d + 2) 289 106 [.ref 205, .int v1, .int v2] [] (mj_hw w c h' hl) ∧ wi_R s 1805 h0 h' := by
  obtain ⟨g1, e1, q1⟩ := s_w289a (E := E) (d := d + 1) (w := w) (c := c) (hl := hl) (v1 := v1) q
  obtain ⟨g2, e2, q2⟩ := s_w287 (E := E) (d := d) (w := w) (c := c) (hl := hl) q1
  obtain ⟨g3, e3, q3⟩ := s_w288 (E := E) (d := d) (w := w) (c := c) (hl := hl) q2
  obtain ⟨g4, e4, q4⟩ := s_w289b (E := E) (d := d + 1) (w := w) (c := c) (hl := hl) (v1 := v1) q3
  obtain ⟨g5, e5, q5⟩ := s_w286 (E := E) (d := d) (w := w) (c := c) (hl := hl) q4
  refine ⟨g5, nI 600, ?_, q5⟩
  refine Eq.trans e1 ?_
  rw [q289_63, e2, mj_bv_some, q289_67, e3, mj_bv_some, q289_71]
  refine Eq.trans e4 ?_
  rw [q289_102, e5, mj_bv_some]
theorem cs_image (a : Int32) (ha : a = 0 ∨ a = 1) : mj_Cs 145 289 [.int a] := by
  intro E d w c hi hl hE hw hI
  obtain ⟨n, l, q⟩ := iv_I_un.mp hI
  obtain ⟨n10, l12, mN, mL⟩ := iv_Jn q
  obtain ⟨q1, q2, q3, q4, q5⟩ := id q
  rcases ha with rfl | rfl
  · rcases id q3 with ⟨z1, z2⟩ | ⟨z1, z2, n', l', z3⟩
    · refine ⟨0, w, c, hi, hl, mj_u hi 205 0 0, ?_, ?_, iv_told q, hw⟩
      · simp (disch := omega) only [q145_0, q145_15, q145_22, q145_31, q145_42, q145_49, e145, ↓reduceIte, Bool.false_eq_true, eq_self, mj_10, mj_01, mj_n10, mj_0n1, mj_1n1, mj_n11, mj_bi_some, mj_bv_some, mj_bj_some, mj_br_some, mj_r0, mj_r1, mj_q0, mj_q1, mj_b01, mj_q2, if_true, if_false, mj_it, mj_if, true_and, and_true, false_and, and_false, not_true_eq_false, not_false_eq_true, true_or, or_true, false_or, or_false, mj_nIle, mj_nIlt, mj_nIeq, mj_nI0, mj_nIc, mj_nIadd, mj_nIs, mj_ez, mj_ze, mj_eo, mj_ltz, mj_lez, mj_zlt, mj_olt, mj_lto, mj_leo, mj_ole, mj_nIn, mj_nnI, nl_2, nl_3, nl_4, nl_5, nl_6, nl_7, nl_8, nl_9, nl_10, nl_11, nl_12, nl_13, nl_14, nl_15, nl_16, nl_17, nl_18, nl_19, nl_20, nl_21, nl_22, nl_23, nl_24, nl_25, nl_26, nl_27, nl_28, nl_29, nl_30, nl_32, nl_33, nl_34, nl_35, nl_36, nl_37, nl_38, nl_39, nl_40, nl_41, nl_42, nl_43, nl_44, nl_45, nl_46, nl_47, nl_48, nl_49, nl_50, nl_51, nl_52, nl_53, nl_54, nl_55, nl_56, nl_57, nl_58, nl_59, nl_60, nl_61, nl_62, nl_64, nl_65, nl_66, nl_67, nl_68, nl_69, nl_92, nl_97, nl_99, nl_100, nl_122, nl_127, nl_128, nl_131, nl_132, nl_150, nl_200, nl_255, nl_256, nl_300, nl_342, nl_380, nl_381, nl_400, nl_401, nl_420, nl_500, nl_600, nl_800, nl_999, nl_1000, nl_1023, nl_1024, nl_1200, nl_2048, nl_2100, nl_4096, nl_9999, nl_10000, nl_10240, nl_999999, nl_1000000, if_pos, if_neg, z1]
      · simp (disch := omega) only [e289, q289_0, ↓reduceIte, Bool.false_eq_true, eq_self, mj_10, mj_01, mj_n10, mj_0n1, mj_1n1, mj_n11, mj_bi_some, mj_bv_some, mj_bj_some, mj_br_some, mj_r0, mj_r1, mj_q0, mj_q1, mj_b01, mj_q2, if_true, if_false, mj_it, mj_if, true_and, and_true, false_and, and_false, not_true_eq_false, not_false_eq_true, true_or, or_true, false_or, or_false, mj_nIle, mj_nIlt, mj_nIeq, mj_nI0, mj_nIc, mj_nIadd, mj_nIs, mj_ez, mj_ze, mj_eo, mj_ltz, mj_lez, mj_zlt, mj_olt, mj_lto, mj_leo, mj_ole, mj_nIn, mj_nnI, nl_2, nl_3, nl_4, nl_5, nl_6, nl_7, nl_8, nl_9, nl_10, nl_11, nl_12, nl_13, nl_14, nl_15, nl_16, nl_17, nl_18, nl_19, nl_20, nl_21, nl_22, nl_23, nl_24, nl_25, nl_26, nl_27, nl_28, nl_29, nl_30, nl_32, nl_33, nl_34, nl_35, nl_36, nl_37, nl_38, nl_39, nl_40, nl_41, nl_42, nl_43, nl_44, nl_45, nl_46, nl_47, nl_48, nl_49, nl_50, nl_51, nl_52, nl_53, nl_54, nl_55, nl_56, nl_57, nl_58, nl_59, nl_60, nl_61, nl_62, nl_64, nl_65, nl_66, nl_67, nl_68, nl_69, nl_92, nl_97, nl_99, nl_100, nl_122, nl_127, nl_128, nl_131, nl_132, nl_150, nl_200, nl_255, nl_256, nl_300, nl_342, nl_380, nl_381, nl_400, nl_401, nl_420, nl_500, nl_600, nl_800, nl_999, nl_1000, nl_1023, nl_1024, nl_1200, nl_2048, nl_2100, nl_4096, nl_9999, nl_10000, nl_10240, nl_999999, nl_1000000, if_pos, if_neg, z2]
    · obtain ⟨g, eg, g1, g2⟩ := s_wcopy_1 (E := E) (d := d + 95) (w := w) (c := c) (hi := hi) (hl := hl)
      have k1 : (mj_u g 91 0 0) 205 64 = 1 := by rw [mj_u_pt (by omega), g2 _ _ (by omega)]; exact z2
      obtain ⟨m, v2, em, qm⟩ := s_w289 (E := E) (d := d + 97) (w := w) (c := c) (hl := hl) (s := false) (v1 := 0) (h0 := mj_u (mj_u (mj_u (mj_u (mj_u g 91 0 0) 205 0 0) 205 63 0) 205 64 1) 205 65 0) (h := mj_u (mj_u (mj_u (mj_u (mj_u g 91 0 0) 205 0 0) 205 63 0) 205 64 1) 205 65 0) ⟨mj_u_eq, by simp (disch := omega) only [mj_u_pt, mj_u_eq]; rfl, fun i hi' => absurd hi' (by omega), fun _ _ _ _ => rfl⟩
      obtain ⟨r1, r2, r3, r4⟩ := qm
      simp only [Bool.false_eq_true, if_false] at r2 r3 r4
      have r4' : ∀ a k, ¬ (a = 205 ∧ k = 65) → ¬ iv_pm a k = true → m a k = (mj_u (mj_u (mj_u (mj_u (mj_u g 91 0 0) 205 0 0) 205 63 0) 205 64 1) 205 65 0) a k := fun a k h1 h2 => r4 a k h1 (fun i hi' z => h2 (by have := (wi_pos_src i hi').2; rw [z] at this; exact this))
      have hlow : ∀ a k, a < 205 ∨ 241 < a → ¬ iv_pm a k = true := fun a k h z => by have := iv_pm_r z; omega
      have h241 : ∀ k, ¬ iv_pm 241 k = true := fun k z => by unfold iv_pm iv_ml at z; simp at z
      have h214 : ∀ k, ¬ iv_pm 214 k = true := fun k z => by unfold iv_pm iv_ml at z; simp at z
      have h215 : ∀ k, ¬ iv_pm 215 k = true := fun k z => by unfold iv_pm iv_ml at z; simp at z
      have h205 : ∀ k, k = 3 ∨ k = 5 ∨ k = 14 ∨ k = 34 ∨ k = 35 ∨ k = 64 → ¬ iv_pm 205 k = true := fun k hk z => by
        unfold iv_pm iv_ml at z
        simp at z
        omega
      have mlow : ∀ a k, a < 205 → m a k = (mj_u g 91 0 0) a k := fun a k h => by rw [r4' a k (by omega) (hlow a k (by omega))]; simp (disch := omega) only [mj_u_pt]
      have m241 : ∀ k, m 241 k = hi 241 k := fun k => by rw [r4' _ _ (by omega) (h241 k)]; simp (disch := omega) only [mj_u_pt, g2]
      have m214 : ∀ k, m 214 k = hi 214 k := fun k => by rw [r4' _ _ (by omega) (h214 k)]; simp (disch := omega) only [mj_u_pt, g2]
      have m215 : ∀ k, m 215 k = hi 215 k := fun k => by rw [r4' _ _ (by omega) (h215 k)]; simp (disch := omega) only [mj_u_pt, g2]
      have m205 : ∀ k, k = 3 ∨ k = 5 ∨ k = 14 ∨ k = 34 ∨ k = 35 → m 205 k = hi 205 k := fun k hk => by rw [r4' _ _ (by omega) (h205 k (by omega))]; simp (disch := omega) only [mj_u_pt, g2]
      have m64 : m 205 64 = hi 205 64 := by rw [r4' _ _ (by omega) (h205 64 (by omega)), z2]; simp (disch := omega) only [mj_u_pt, mj_u_eq]
      have mpm : ∀ a k, iv_pm a k = true → m a k = iv_dec hi a k := fun a k h => by
        obtain ⟨s1, s2⟩ := wi_sp h
        have := r3 (wi_pos a k) s2
        rw [s1] at this
        rw [wi_dec, this]
        simp (disch := omega) only [mj_u_pt, g2]
      refine ⟨1, w, c, mj_u g 91 0 0, hl, mj_u m 205 3 0, ?_, ?_, ?_, hw⟩
      · have hne : ¬ hi 0 2 = 0 := by rw [z1]; decide
        simp (disch := omega) only [q145_0, q145_15, q145_22, q145_31, q145_42, q145_49, e145, q45_0, e45, ↓reduceIte, Bool.false_eq_true, eq_self, mj_10, mj_01, mj_n10, mj_0n1, mj_1n1, mj_n11, mj_bi_some, mj_bv_some, mj_bj_some, mj_br_some, mj_r0, mj_r1, mj_q0, mj_q1, mj_b01, mj_q2, if_true, if_false, mj_it, mj_if, true_and, and_true, false_and, and_false, not_true_eq_false, not_false_eq_true, true_or, or_true, false_or, or_false, mj_nIle, mj_nIlt, mj_nIeq, mj_nI0, mj_nIc, mj_nIadd, mj_nIs, mj_ez, mj_ze, mj_eo, mj_ltz, mj_lez, mj_zlt, mj_olt, mj_lto, mj_leo, mj_ole, mj_nIn, mj_nnI, nl_2, nl_3, nl_4, nl_5, nl_6, nl_7, nl_8, nl_9, nl_10, nl_11, nl_12, nl_13, nl_14, nl_15, nl_16, nl_17, nl_18, nl_19, nl_20, nl_21, nl_22, nl_23, nl_24, nl_25, nl_26, nl_27, nl_28, nl_29, nl_30, nl_32, nl_33, nl_34, nl_35, nl_36, nl_37, nl_38, nl_39, nl_40, nl_41, nl_42, nl_43, nl_44, nl_45, nl_46, nl_47, nl_48, nl_49, nl_50, nl_51, nl_52, nl_53, nl_54, nl_55, nl_56, nl_57, nl_58, nl_59, nl_60, nl_61, nl_62, nl_64, nl_65, nl_66, nl_67, nl_68, nl_69, nl_92, nl_97, nl_99, nl_100, nl_122, nl_127, nl_128, nl_131, nl_132, nl_150, nl_200, nl_255, nl_256, nl_300, nl_342, nl_380, nl_381, nl_400, nl_401, nl_420, nl_500, nl_600, nl_800, nl_999, nl_1000, nl_1023, nl_1024, nl_1200, nl_2048, nl_2100, nl_4096, nl_9999, nl_10000, nl_10240, nl_999999, nl_1000000, if_pos, if_neg, hne, eg]
      · have hne : ¬ (mj_u g 91 0 0) 205 64 = 0 := by rw [k1]; decide
        simp (disch := omega) only [e289, q289_0, q289_18, ↓reduceIte, Bool.false_eq_true, eq_self, mj_10, mj_01, mj_n10, mj_0n1, mj_1n1, mj_n11, mj_bi_some, mj_bv_some, mj_bj_some, mj_br_some, mj_r0, mj_r1, mj_q0, mj_q1, mj_b01, mj_q2, if_true, if_false, mj_it, mj_if, true_and, and_true, false_and, and_false, not_true_eq_false, not_false_eq_true, true_or, or_true, false_or, or_false, mj_nIle, mj_nIlt, mj_nIeq, mj_nI0, mj_nIc, mj_nIadd, mj_nIs, mj_ez, mj_ze, mj_eo, mj_ltz, mj_lez, mj_zlt, mj_olt, mj_lto, mj_leo, mj_ole, mj_nIn, mj_nnI, nl_2, nl_3, nl_4, nl_5, nl_6, nl_7, nl_8, nl_9, nl_10, nl_11, nl_12, nl_13, nl_14, nl_15, nl_16, nl_17, nl_18, nl_19, nl_20, nl_21, nl_22, nl_23, nl_24, nl_25, nl_26, nl_27, nl_28, nl_29, nl_30, nl_32, nl_33, nl_34, nl_35, nl_36, nl_37, nl_38, nl_39, nl_40, nl_41, nl_42, nl_43, nl_44, nl_45, nl_46, nl_47, nl_48, nl_49, nl_50, nl_51, nl_52, nl_53, nl_54, nl_55, nl_56, nl_57, nl_58, nl_59, nl_60, nl_61, nl_62, nl_64, nl_65, nl_66, nl_67, nl_68, nl_69, nl_92, nl_97, nl_99, nl_100, nl_122, nl_127, nl_128, nl_131, nl_132, nl_150, nl_200, nl_255, nl_256, nl_300, nl_342, nl_380, nl_381, nl_400, nl_401, nl_420, nl_500, nl_600, nl_800, nl_999, nl_1000, nl_1023, nl_1024, nl_1200, nl_2048, nl_2100, nl_4096, nl_9999, nl_10000, nl_10240, nl_999999, nl_1000000, if_pos, if_neg, hne]
        have em' : mj_den mj_P E (d + 99) 289 35 [.ref 205, .int 0, .int 0] [] _ = _ := em
        simp (disch := omega) only [em', q289_106, q289_115, ↓reduceIte, Bool.false_eq_true, eq_self, mj_10, mj_01, mj_n10, mj_0n1, mj_1n1, mj_n11, mj_bi_some, mj_bv_some, mj_bj_some, mj_br_some, mj_r0, mj_r1, mj_q0, mj_q1, mj_b01, mj_q2, if_true, if_false, mj_it, mj_if, true_and, and_true, false_and, and_false, not_true_eq_false, not_false_eq_true, true_or, or_true, false_or, or_false, mj_nIle, mj_nIlt, mj_nIeq, mj_nI0, mj_nIc, mj_nIadd, mj_nIs, mj_ez, mj_ze, mj_eo, mj_ltz, mj_lez, mj_zlt, mj_olt, mj_lto, mj_leo, mj_ole, mj_nIn, mj_nnI, nl_2, nl_3, nl_4, nl_5, nl_6, nl_7, nl_8, nl_9, nl_10, nl_11, nl_12, nl_13, nl_14, nl_15, nl_16, nl_17, nl_18, nl_19, nl_20, nl_21, nl_22, nl_23, nl_24, nl_25, nl_26, nl_27, nl_28, nl_29, nl_30, nl_32, nl_33, nl_34, nl_35, nl_36, nl_37, nl_38, nl_39, nl_40, nl_41, nl_42, nl_43, nl_44, nl_45, nl_46, nl_47, nl_48, nl_49, nl_50, nl_51, nl_52, nl_53, nl_54, nl_55, nl_56, nl_57, nl_58, nl_59, nl_60, nl_61, nl_62, nl_64, nl_65, nl_66, nl_67, nl_68, nl_69, nl_92, nl_97, nl_99, nl_100, nl_122, nl_127, nl_128, nl_131, nl_132, nl_150, nl_200, nl_255, nl_256, nl_300, nl_342, nl_380, nl_381, nl_400, nl_401, nl_420, nl_500, nl_600, nl_800, nl_999, nl_1000, nl_1023, nl_1024, nl_1200, nl_2048, nl_2100, nl_4096, nl_9999, nl_10000, nl_10240, nl_999999, nl_1000000, if_pos, if_neg]
      · refine iv_two (n := n') (l := l') (h := mj_u g 91 0 0) (m := mj_u m 205 3 0) (fun a k h => by rw [mj_u_pt (by omega)]; exact mlow a k h) (fun _ _ _ _ => rfl) ⟨?_, ?_, ?_, ?_, ?_⟩
        · refine iv_IW_congr (fun j k hp => ?_) (fun a k hp => ?_) z3
          · have := (wi_L_pw hp).1
            show (mj_u g 91 0 0) (1 + j) k = hi (46 + j) k
            rw [mj_u_pt (by omega)]; exact g1 j k hp
          · have hne : ¬ (a = 205 ∧ k = 3) := fun z => by
              rw [z.1, z.2] at hp
              exact h205 3 (by omega) hp
            rw [mj_u_pt (by omega)]; exact mpm a k hp
        · obtain ⟨u, x, y1, y2, y3, y4, y5, y6⟩ := q2
          refine ⟨0, x, by omega, y2, mj_u_eq, mj_u_eq, ?_, fun j hj => absurd hj (by omega)⟩
          rw [mj_u_pt (by omega), g2 _ _ (by omega)]; exact y5
        · exact iv_G2_congr q3 (by rw [mj_u_pt (by omega), g2 _ _ (by omega)]) (fun a k _ _ => by rw [mj_u_pt (by omega), g2 _ _ (by omega)]) (by rw [mj_u_pt (by omega)]; exact m64) (fun k => by rw [mj_u_pt (by omega)]; exact m241 k)
        · exact iv_IRead_congr q4 (fun a k _ => by rw [mj_u_pt (by omega), g2 _ _ (by omega)]) (fun k _ => by rw [mj_u_pt (by omega)]; exact m205 k (by omega)) (fun k => by rw [mj_u_pt (by omega)]; exact m214 k)
        · exact iv_IConst_congr q5 (fun k => by rw [mj_u_pt (by omega), g2 _ _ (by omega)]) (by rw [mj_u_pt (by omega)]; exact m205 5 (by omega)) (fun k => by rw [mj_u_pt (by omega)]; exact m215 k)
  · obtain ⟨g, eg, g1, g2⟩ := s_wcopy_46 (E := E) (d := d + 95) (w := w) (c := c) (hi := hi) (hl := hl)
    obtain ⟨m, v2, em, qm⟩ := s_w289 (E := E) (d := d + 97) (w := w) (c := c) (hl := hl) (s := true) (v1 := 1) (h0 := mj_u (mj_u (mj_u (mj_u (mj_u g 0 2 1) 205 0 0) 205 63 1) 205 64 1) 205 65 0) (h := mj_u (mj_u (mj_u (mj_u (mj_u g 0 2 1) 205 0 0) 205 63 1) 205 64 1) 205 65 0) ⟨mj_u_eq, by simp (disch := omega) only [mj_u_pt, mj_u_eq]; rfl, fun i hi' => absurd hi' (by omega), fun _ _ _ _ => rfl⟩
    obtain ⟨r1, r2, r3, r4⟩ := qm
    simp only [if_true] at r2 r3 r4
    have mall : ∀ a k, a ≠ 241 → ¬ (a = 205 ∧ (k = 0 ∨ k = 63 ∨ k = 64 ∨ k = 65)) → m a k = (mj_u g 0 2 1) a k := fun a k h1 h2 => by rw [r4 a k (by omega) h1]; simp (disch := omega) only [mj_u_pt]
    have m64 : m 205 64 = 1 := by rw [r4 _ _ (by omega) (by omega)]; simp (disch := omega) only [mj_u_pt, mj_u_eq]
    have mpm : ∀ a k, iv_pm a k = true → ¬ (a = 205 ∧ (k = 0 ∨ k = 63 ∨ k = 64 ∨ k = 65)) ∧ a ≠ 241 := fun a k h => by
      refine ⟨fun z => ?_, fun z => ?_⟩
      · obtain ⟨z1, z2⟩ := z
        subst z1
        unfold iv_pm iv_ml at h
        simp at h
        omega
      · subst z
        unfold iv_pm iv_ml at h
        simp at h
    have mpm2 : ∀ a k, iv_pm a k = true → m a k = hi a k := fun a k h => by
      obtain ⟨h1, h2⟩ := mpm a k h
      have := (iv_pm_r h).1
      rw [mall a k h2 h1, mj_u_pt (by omega), g2 _ _ (by omega)]
    refine ⟨1, w, c, mj_u g 0 2 1, hl, m, ?_, ?_, ?_, hw⟩
    · simp (disch := omega) only [q145_0, q145_15, q145_22, q145_31, q145_42, q145_49, e145, ↓reduceIte, Bool.false_eq_true, eq_self, mj_10, mj_01, mj_n10, mj_0n1, mj_1n1, mj_n11, mj_bi_some, mj_bv_some, mj_bj_some, mj_br_some, mj_r0, mj_r1, mj_q0, mj_q1, mj_b01, mj_q2, if_true, if_false, mj_it, mj_if, true_and, and_true, false_and, and_false, not_true_eq_false, not_false_eq_true, true_or, or_true, false_or, or_false, mj_nIle, mj_nIlt, mj_nIeq, mj_nI0, mj_nIc, mj_nIadd, mj_nIs, mj_ez, mj_ze, mj_eo, mj_ltz, mj_lez, mj_zlt, mj_olt, mj_lto, mj_leo, mj_ole, mj_nIn, mj_nnI, nl_2, nl_3, nl_4, nl_5, nl_6, nl_7, nl_8, nl_9, nl_10, nl_11, nl_12, nl_13, nl_14, nl_15, nl_16, nl_17, nl_18, nl_19, nl_20, nl_21, nl_22, nl_23, nl_24, nl_25, nl_26, nl_27, nl_28, nl_29, nl_30, nl_32, nl_33, nl_34, nl_35, nl_36, nl_37, nl_38, nl_39, nl_40, nl_41, nl_42, nl_43, nl_44, nl_45, nl_46, nl_47, nl_48, nl_49, nl_50, nl_51, nl_52, nl_53, nl_54, nl_55, nl_56, nl_57, nl_58, nl_59, nl_60, nl_61, nl_62, nl_64, nl_65, nl_66, nl_67, nl_68, nl_69, nl_92, nl_97, nl_99, nl_100, nl_122, nl_127, nl_128, nl_131, nl_132, nl_150, nl_200, nl_255, nl_256, nl_300, nl_342, nl_380, nl_381, nl_400, nl_401, nl_420, nl_500, nl_600, nl_800, nl_999, nl_1000, nl_1023, nl_1024, nl_1200, nl_2048, nl_2100, nl_4096, nl_9999, nl_10000, nl_10240, nl_999999, nl_1000000, if_pos, if_neg, eg]
    · simp (disch := omega) only [e289, q289_0, q289_18, ↓reduceIte, Bool.false_eq_true, eq_self, mj_10, mj_01, mj_n10, mj_0n1, mj_1n1, mj_n11, mj_bi_some, mj_bv_some, mj_bj_some, mj_br_some, mj_r0, mj_r1, mj_q0, mj_q1, mj_b01, mj_q2, if_true, if_false, mj_it, mj_if, true_and, and_true, false_and, and_false, not_true_eq_false, not_false_eq_true, true_or, or_true, false_or, or_false, mj_nIle, mj_nIlt, mj_nIeq, mj_nI0, mj_nIc, mj_nIadd, mj_nIs, mj_ez, mj_ze, mj_eo, mj_ltz, mj_lez, mj_zlt, mj_olt, mj_lto, mj_leo, mj_ole, mj_nIn, mj_nnI, nl_2, nl_3, nl_4, nl_5, nl_6, nl_7, nl_8, nl_9, nl_10, nl_11, nl_12, nl_13, nl_14, nl_15, nl_16, nl_17, nl_18, nl_19, nl_20, nl_21, nl_22, nl_23, nl_24, nl_25, nl_26, nl_27, nl_28, nl_29, nl_30, nl_32, nl_33, nl_34, nl_35, nl_36, nl_37, nl_38, nl_39, nl_40, nl_41, nl_42, nl_43, nl_44, nl_45, nl_46, nl_47, nl_48, nl_49, nl_50, nl_51, nl_52, nl_53, nl_54, nl_55, nl_56, nl_57, nl_58, nl_59, nl_60, nl_61, nl_62, nl_64, nl_65, nl_66, nl_67, nl_68, nl_69, nl_92, nl_97, nl_99, nl_100, nl_122, nl_127, nl_128, nl_131, nl_132, nl_150, nl_200, nl_255, nl_256, nl_300, nl_342, nl_380, nl_381, nl_400, nl_401, nl_420, nl_500, nl_600, nl_800, nl_999, nl_1000, nl_1023, nl_1024, nl_1200, nl_2048, nl_2100, nl_4096, nl_9999, nl_10000, nl_10240, nl_999999, nl_1000000, if_pos, if_neg]
      have em' : mj_den mj_P E (d + 99) 289 35 [.ref 205, .int 1, .int 0] [] _ = _ := em
      simp (disch := omega) only [em', q289_106, q289_115, ↓reduceIte, Bool.false_eq_true, eq_self, mj_10, mj_01, mj_n10, mj_0n1, mj_1n1, mj_n11, mj_bi_some, mj_bv_some, mj_bj_some, mj_br_some, mj_r0, mj_r1, mj_q0, mj_q1, mj_b01, mj_q2, if_true, if_false, mj_it, mj_if, true_and, and_true, false_and, and_false, not_true_eq_false, not_false_eq_true, true_or, or_true, false_or, or_false, mj_nIle, mj_nIlt, mj_nIeq, mj_nI0, mj_nIc, mj_nIadd, mj_nIs, mj_ez, mj_ze, mj_eo, mj_ltz, mj_lez, mj_zlt, mj_olt, mj_lto, mj_leo, mj_ole, mj_nIn, mj_nnI, nl_2, nl_3, nl_4, nl_5, nl_6, nl_7, nl_8, nl_9, nl_10, nl_11, nl_12, nl_13, nl_14, nl_15, nl_16, nl_17, nl_18, nl_19, nl_20, nl_21, nl_22, nl_23, nl_24, nl_25, nl_26, nl_27, nl_28, nl_29, nl_30, nl_32, nl_33, nl_34, nl_35, nl_36, nl_37, nl_38, nl_39, nl_40, nl_41, nl_42, nl_43, nl_44, nl_45, nl_46, nl_47, nl_48, nl_49, nl_50, nl_51, nl_52, nl_53, nl_54, nl_55, nl_56, nl_57, nl_58, nl_59, nl_60, nl_61, nl_62, nl_64, nl_65, nl_66, nl_67, nl_68, nl_69, nl_92, nl_97, nl_99, nl_100, nl_122, nl_127, nl_128, nl_131, nl_132, nl_150, nl_200, nl_255, nl_256, nl_300, nl_342, nl_380, nl_381, nl_400, nl_401, nl_420, nl_500, nl_600, nl_800, nl_999, nl_1000, nl_1023, nl_1024, nl_1200, nl_2048, nl_2100, nl_4096, nl_9999, nl_10000, nl_10240, nl_999999, nl_1000000, if_pos, if_neg]
    · refine iv_two (n := n) (l := l) (h := mj_u g 0 2 1) (m := m) (fun a k h => mall a k (by omega) (by omega)) (fun _ _ _ _ => rfl) ⟨?_, ?_, ?_, ?_, ?_⟩
      · refine iv_IW_congr (fun j k hp => ?_) (fun a k hp => mpm2 a k hp) q1
        have := (wi_L_pw hp).1
        show (mj_u g 0 2 1) (1 + j) k = hi (1 + j) k
        rw [mj_u_pt (by omega), g2 _ _ (by omega)]
      · exact iv_P2_congr n10 l12 q2 (fun a k _ _ => by rw [mj_u_pt (by omega), g2 _ _ (by omega)]) (by rw [mall _ _ (by omega) (by omega), mj_u_pt (by omega), g2 _ _ (by omega)]) (fun a k _ => by rw [mall _ _ (by omega) (by omega), mj_u_pt (by omega), g2 _ _ (by omega)])
      · refine Or.inr ⟨mj_u_eq, m64, n, l, ?_⟩
        refine iv_IW_congr (fun j k hp => ?_) (fun a k hp => ?_) q1
        · have := (wi_L_pw hp).1
          show (mj_u g 0 2 1) (46 + j) k = hi (1 + j) k
          rw [mj_u_pt (by omega)]; exact g1 j k hp
        · obtain ⟨s1, s2⟩ := wi_sp hp
          have h3 := r3 (wi_pos a k) s2
          rw [s1] at h3
          obtain ⟨h1, h2⟩ := mpm a k hp
          have := (iv_pm_r hp).1
          rw [wi_dec, h3]
          simp (disch := omega) only [mj_u_pt, g2]
      · exact iv_IRead_congr q4 (fun a k _ => by rw [mj_u_pt (by omega), g2 _ _ (by omega)]) (fun k _ => by rw [mall _ _ (by omega) (by omega), mj_u_pt (by omega), g2 _ _ (by omega)]) (fun k => by rw [mall _ _ (by omega) (by omega), mj_u_pt (by omega), g2 _ _ (by omega)])
      · exact iv_IConst_congr q5 (fun k => by rw [mj_u_pt (by omega), g2 _ _ (by omega)]) (by rw [mall _ _ (by omega) (by omega), mj_u_pt (by omega), g2 _ _ (by omega)]) (fun k => by rw [mall _ _ (by omega) (by omega), mj_u_pt (by omega), g2 _ _ (by omega)])
