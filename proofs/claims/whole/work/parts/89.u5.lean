theorem cs_house : mj_Cs 113 231 [] := by
  intro E d w c hi hl hE hw hI
  obtain ⟨n, l, q⟩ := iv_I_un.mp hI
  obtain ⟨n10, l12, mN, mL⟩ := iv_Jn q
  obtain ⟨S, S16, s1, s2, s3⟩ := q.1.2.2.2.2.2.2.2.2.2.1
  have s1' : hi 30 0 = nI S := s1
  obtain ⟨g, eg, gf, hgo⟩ := iv_act (E := E) (d := d + 95) (w := w) (c := c) (hl := hl) q
  have eg2 : mj_dc mj_P E (d + 99) 43 [.ref 91, .ref 2] (mj_hw w c hi hl) = some (none, mj_hw w c g hl) := eg
  obtain ⟨L, len, s, p, cb, cw, cc, y, f', t, qC, qM⟩ := iv_K q
  have gC : ∀ a k, 13 ≤ a → a ≤ 19 ∨ (22 ≤ a ∧ a ≤ 29) → g a k = hi a k := fun a k z1 z2 => gf _ _ (by omega)
  have ag : au 2 n l g hi := au_c (iv_au q) (fun a k z => gf _ _ (by omega)) (fun _ _ _ => rfl)
  have key := lp_ex (fun k (st : Int32 × mj_HI) => mj_den mj_P E (d + 99) 113 18 [.ref 0, .int st.1, .int (nI k)] [] (mj_hw w c st.2 hl)) (fun k st => au_X 2 g st.2 ∧ ∀ hm, au_KM 2 n l L len s p cb cw cc y f' t (hi 18) (hi 19) (hi 14) (hi 24) hm → au 2 n l g hm → hm 205 40 = nI S → (∀ j, hm 226 j = hi 226 j) → ∃ hm', mj_den mj_P E (d + 99) 231 13 [.ref 205, .int 0, .int 0] [] (mj_hw w c hm hl) = mj_den mj_P E (d + 99) 231 13 [.ref 205, .int st.1, .int (nI k)] [] (mj_hw w c hm' hl) ∧ au_M hm hm' ∧ au 2 n l st.2 hm') S (fun k st hk hI' => ?_) (0, g) ⟨fun _ _ _ _ _ _ _ => rfl, fun hm z1 z2 z3 z4 => ⟨hm, rfl, fun _ _ _ _ _ _ _ => rfl, z2⟩⟩
  · obtain ⟨⟨v, hX⟩, e1, e2, e3⟩ := key
    simp only at e2 e3
    have hXh : ∀ a k, 205 ≤ a → hX a k = hi a k := fun a k z => by rw [e2 _ _ (by omega) (by omega) (by omega) (by omega) (by omega), gf _ _ (by omega)]
    obtain ⟨f, ef, ff, hfin⟩ := hgo hX hXh (fun a k h => e2 _ _ (by omega) (by omega) (by omega) (by omega) (by omega))
    have ef2 : mj_dc mj_P E (d + 99) 158 [.ref 205] (mj_hw w c (mj_u hX 205 0 0) hl) = some (none, mj_hw w c f hl) := ef
    have fh : ∀ a k, 205 ≤ a → a ≠ 207 → (a = 205 → k ≠ 3 ∧ k ≠ 0) → f a k = hi a k := fun a k z1 z2 z3 => by rw [ff a k z2 z3, hXh a k z1]
    have qMf : au_KM 2 n l L len s p cb cw cc y f' t (hi 18) (hi 19) (hi 14) (hi 24) f := by
      obtain ⟨q1, q2, q3, q4, ⟨q5, q6, q7⟩, q8⟩ := qM
      have e224 : (fun k => f 224 (2 * k)) = (fun k => hi 224 (2 * k)) := funext (fun k => fh _ _ (by omega) (by omega) (by omega))
      refine ⟨?_, ?_, ?_, wl_M_congr q4 (fun a k z1 z2 => fh _ _ (by omega) (by omega) (by omega)), ⟨?_, fun i hi' => ?_, fun k => ?_⟩, fun k hk => ?_⟩
      · rw [fh _ _ (by omega) (by omega) (by omega)]; exact q1
      · rw [fh _ _ (by omega) (by omega) (by omega)]; exact q2
      · rw [fh _ _ (by omega) (by omega) (by omega)]; exact q3
      · rw [fh _ _ (by omega) (by omega) (by omega)]; exact q5
      · rw [fh _ _ (by omega) (by omega) (by omega)]; exact q6 i hi'
      · rw [e224]; exact q7 k
      · rw [fh _ _ (by omega) (by omega) (by omega)]; exact q8 k hk
    obtain ⟨hM, m1, m2, m3⟩ := e3 f qMf (au_c ag (fun _ _ _ => rfl) (fun a k z => fh _ _ (by omega) (by omega) (by omega))) (by rw [fh _ _ (by omega) (by omega) (by omega)]; exact s2) (fun j => fh _ _ (by omega) (by omega) (by omega))
    have x30 : hX 30 0 = nI S := by rw [e2 _ _ (by omega) (by omega) (by omega) (by omega) (by omega), gf _ _ (by omega)]; exact s1'
    have h40 : hM 205 40 = nI S := by rw [m2 _ _ (by omega) (by omega) (by omega) (by omega) (by omega), fh _ _ (by omega) (by omega) (by omega)]; exact s2
    have le : nI S ≤ nI S := by rw [mj_nIle (by omega) (by omega)]; exact Nat.le_refl _
    have e1' : mj_den mj_P E (d + 99) 113 18 [.ref 0, .int 0, .int 0] [] (mj_hw w c g hl) = mj_den mj_P E (d + 99) 113 18 [.ref 0, .int v, .int (nI S)] [] (mj_hw w c hX hl) := e1
    refine ⟨v, w, c, hX, hl, hM, ?_, ?_, ?_, hw⟩
    · simp (disch := omega) only [e113, q113_0, q113_14, ↓reduceIte, Bool.false_eq_true, eq_self, mj_10, mj_01, mj_n10, mj_0n1, mj_1n1, mj_n11, mj_bi_some, mj_bv_some, mj_bj_some, mj_br_some, mj_r0, mj_r1, mj_q0, mj_q1, mj_b01, mj_q2, if_true, if_false, mj_it, mj_if, true_and, and_true, false_and, and_false, not_true_eq_false, not_false_eq_true, true_or, or_true, false_or, or_false, mj_nIle, mj_nIlt, mj_nIeq, mj_nI0, mj_nIc, mj_nIadd, mj_nIs, mj_ez, mj_ze, mj_eo, mj_ltz, mj_lez, mj_zlt, mj_olt, mj_lto, mj_leo, mj_ole, mj_nIn, mj_nnI, nl_2, nl_3, nl_4, nl_5, nl_6, nl_7, nl_8, nl_9, nl_10, nl_11, nl_12, nl_13, nl_14, nl_15, nl_16, nl_17, nl_18, nl_19, nl_20, nl_21, nl_22, nl_23, nl_24, nl_25, nl_26, nl_27, nl_28, nl_29, nl_30, nl_32, nl_33, nl_34, nl_35, nl_36, nl_37, nl_38, nl_39, nl_40, nl_41, nl_42, nl_43, nl_44, nl_45, nl_46, nl_47, nl_48, nl_49, nl_50, nl_51, nl_52, nl_53, nl_54, nl_55, nl_56, nl_57, nl_58, nl_59, nl_60, nl_61, nl_62, nl_64, nl_65, nl_66, nl_67, nl_68, nl_69, nl_92, nl_97, nl_99, nl_100, nl_122, nl_127, nl_128, nl_131, nl_132, nl_150, nl_200, nl_255, nl_256, nl_300, nl_342, nl_380, nl_381, nl_400, nl_401, nl_420, nl_500, nl_600, nl_800, nl_999, nl_1000, nl_1023, nl_1024, nl_1200, nl_2048, nl_2100, nl_4096, nl_9999, nl_10000, nl_10240, nl_999999, nl_1000000, if_pos, if_neg, eg2]
      rw [e1', q113_18, x30, if_pos le, q113_90]
    · simp (disch := omega) only [e231, q231_0, q231_9, ↓reduceIte, Bool.false_eq_true, eq_self, mj_10, mj_01, mj_n10, mj_0n1, mj_1n1, mj_n11, mj_bi_some, mj_bv_some, mj_bj_some, mj_br_some, mj_r0, mj_r1, mj_q0, mj_q1, mj_b01, mj_q2, if_true, if_false, mj_it, mj_if, true_and, and_true, false_and, and_false, not_true_eq_false, not_false_eq_true, true_or, or_true, false_or, or_false, mj_nIle, mj_nIlt, mj_nIeq, mj_nI0, mj_nIc, mj_nIadd, mj_nIs, mj_ez, mj_ze, mj_eo, mj_ltz, mj_lez, mj_zlt, mj_olt, mj_lto, mj_leo, mj_ole, mj_nIn, mj_nnI, nl_2, nl_3, nl_4, nl_5, nl_6, nl_7, nl_8, nl_9, nl_10, nl_11, nl_12, nl_13, nl_14, nl_15, nl_16, nl_17, nl_18, nl_19, nl_20, nl_21, nl_22, nl_23, nl_24, nl_25, nl_26, nl_27, nl_28, nl_29, nl_30, nl_32, nl_33, nl_34, nl_35, nl_36, nl_37, nl_38, nl_39, nl_40, nl_41, nl_42, nl_43, nl_44, nl_45, nl_46, nl_47, nl_48, nl_49, nl_50, nl_51, nl_52, nl_53, nl_54, nl_55, nl_56, nl_57, nl_58, nl_59, nl_60, nl_61, nl_62, nl_64, nl_65, nl_66, nl_67, nl_68, nl_69, nl_92, nl_97, nl_99, nl_100, nl_122, nl_127, nl_128, nl_131, nl_132, nl_150, nl_200, nl_255, nl_256, nl_300, nl_342, nl_380, nl_381, nl_400, nl_401, nl_420, nl_500, nl_600, nl_800, nl_999, nl_1000, nl_1023, nl_1024, nl_1200, nl_2048, nl_2100, nl_4096, nl_9999, nl_10000, nl_10240, nl_999999, nl_1000000, if_pos, if_neg, ef2]
      rw [m1, q231_13, h40, if_pos le, q231_41]
    · refine iv_two (n := n) (l := l) (h := hX) (m := hM) (fun a k ha => by rw [m2 _ _ (by omega) (by omega) (by omega) (by omega) (by omega), ff a k (by omega) (by omega)]) (fun _ _ _ _ => rfl) ?_
      exact hfin hM (fun a k h => m2 _ _ (by omega) (by omega) (by omega) (by omega) (by omega)) (fun k h => m2 _ _ (by omega) (by omega) (by omega) (by omega) (by omega)) (au_R_to m3.1) (m3.2 rfl)
  · obtain ⟨v, hx⟩ := st
    obtain ⟨i1, i2⟩ := hI'
    simp only at i1 i2
    have i1' : au_X 2 g hx := i1
    have xg : ∀ a k, (13 ≤ a ∧ a ≤ 19) ∨ (22 ≤ a ∧ a ≤ 41) → hx a k = hi a k := fun a k z => by rw [i1' _ _ (by omega) (by omega) (by omega) (by omega) (by omega), gf _ _ (by omega)]
    obtain ⟨x, yy, x2, c30, r0, c31, r1, hy, hv⟩ := s3 k hk
    have c30' : hi 31 k = nI x := c30
    have c31' : hi 32 k = nI yy := c31
    obtain ⟨v3, m3, c32', r2, hv'⟩ : ∃ v3 m3, hi 33 k = v3 ∧ hi 226 (3 * k + 2) = m3 ∧ ((v3 = -1 ∧ m3 = 0) ∨ (x = 0 ∧ v3 = 3 ∧ m3 = 1) ∨ (x = 0 ∧ v3 = 4 ∧ m3 = 2)) := ⟨_, _, rfl, rfl, hv⟩
    obtain ⟨h0, _, u2, u3⟩ := i2 hi qM ag s2 (fun _ => rfl)
    have u2' : ∀ j, h0 226 j = hi 226 j := fun j => u2 _ _ (by omega) (by omega) (by omega) (by omega) (by omega)
    obtain ⟨b, hX, b01, c1, c2, c3⟩ := s_line (E := E) (d := d + 91) (d' := d + 89) (w := w) (c := c) (hl := hl) (i := k) (hx := hx) (hm0 := h0) (v3 := v3) (m3 := m3) hE n10 l12 x2 hy hv' (by omega) (au_KC_c qC (fun a k z1 z2 => xg a k (by omega))) (funext (fun k => xg 18 k (by omega))) (funext (fun k => xg 19 k (by omega))) (funext (fun k => xg 14 k (by omega))) (funext (fun k => xg 24 k (by omega))) (au_KM_c qM u2) u3 (by rw [u2']; exact r0) (by rw [u2']; exact r1) (by rw [u2']; exact r2)
    have c1' : mj_dc mj_P E (d + 99) 114 [.ref 0, .int (nI x), .int (nI yy), .int v3] (mj_hw w c hx hl) = some (some (.int b), mj_hw w c hX hl) := c1
    have x30 : hx 30 0 = nI S := by rw [xg _ _ (by omega)]; exact s1'
    have x31 : hx 31 k = nI x := by rw [xg _ _ (by omega)]; exact c30'
    have x32 : hx 32 k = nI yy := by rw [xg _ _ (by omega)]; exact c31'
    have x33 : hx 33 k = v3 := by rw [xg _ _ (by omega)]; exact c32'
    have nk : ¬ S ≤ k := by omega
    have n16 : ¬ 16 ≤ k := by omega
    have k16 : k < 16 := by omega
    refine ⟨(if b = 0 then v else v + 1, hX), ?_, au_X_t i1' c2, fun hm z1 z2 z3 z4 => ?_⟩
    · show mj_den mj_P E (d + 99) 113 18 [.ref 0, .int v, .int (nI k)] [] (mj_hw w c hx hl) = mj_den mj_P E (d + 99) 113 18 [.ref 0, .int (if b = 0 then v else v + 1), .int (nI (k + 1))] [] (mj_hw w c hX hl)
      rw [q113_18]
      by_cases hb : b = 0
      · simp (disch := omega) only [q113_78, q113_84, ↓reduceIte, Bool.false_eq_true, eq_self, mj_10, mj_01, mj_n10, mj_0n1, mj_1n1, mj_n11, mj_bi_some, mj_bv_some, mj_bj_some, mj_br_some, mj_r0, mj_r1, mj_q0, mj_q1, mj_b01, mj_q2, if_true, if_false, mj_it, mj_if, true_and, and_true, false_and, and_false, not_true_eq_false, not_false_eq_true, true_or, or_true, false_or, or_false, mj_nIle, mj_nIlt, mj_nIeq, mj_nI0, mj_nIc, mj_nIadd, mj_nIs, mj_ez, mj_ze, mj_eo, mj_ltz, mj_lez, mj_zlt, mj_olt, mj_lto, mj_leo, mj_ole, mj_nIn, mj_nnI, nl_2, nl_3, nl_4, nl_5, nl_6, nl_7, nl_8, nl_9, nl_10, nl_11, nl_12, nl_13, nl_14, nl_15, nl_16, nl_17, nl_18, nl_19, nl_20, nl_21, nl_22, nl_23, nl_24, nl_25, nl_26, nl_27, nl_28, nl_29, nl_30, nl_32, nl_33, nl_34, nl_35, nl_36, nl_37, nl_38, nl_39, nl_40, nl_41, nl_42, nl_43, nl_44, nl_45, nl_46, nl_47, nl_48, nl_49, nl_50, nl_51, nl_52, nl_53, nl_54, nl_55, nl_56, nl_57, nl_58, nl_59, nl_60, nl_61, nl_62, nl_64, nl_65, nl_66, nl_67, nl_68, nl_69, nl_92, nl_97, nl_99, nl_100, nl_122, nl_127, nl_128, nl_131, nl_132, nl_150, nl_200, nl_255, nl_256, nl_300, nl_342, nl_380, nl_381, nl_400, nl_401, nl_420, nl_500, nl_600, nl_800, nl_999, nl_1000, nl_1023, nl_1024, nl_1200, nl_2048, nl_2100, nl_4096, nl_9999, nl_10000, nl_10240, nl_999999, nl_1000000, if_pos, if_neg, x30, x31, x32, x33, c1', hb, nk, n16, k16]
      · simp (disch := omega) only [q113_78, q113_84, ↓reduceIte, Bool.false_eq_true, eq_self, mj_10, mj_01, mj_n10, mj_0n1, mj_1n1, mj_n11, mj_bi_some, mj_bv_some, mj_bj_some, mj_br_some, mj_r0, mj_r1, mj_q0, mj_q1, mj_b01, mj_q2, if_true, if_false, mj_it, mj_if, true_and, and_true, false_and, and_false, not_true_eq_false, not_false_eq_true, true_or, or_true, false_or, or_false, mj_nIle, mj_nIlt, mj_nIeq, mj_nI0, mj_nIc, mj_nIadd, mj_nIs, mj_ez, mj_ze, mj_eo, mj_ltz, mj_lez, mj_zlt, mj_olt, mj_lto, mj_leo, mj_ole, mj_nIn, mj_nnI, nl_2, nl_3, nl_4, nl_5, nl_6, nl_7, nl_8, nl_9, nl_10, nl_11, nl_12, nl_13, nl_14, nl_15, nl_16, nl_17, nl_18, nl_19, nl_20, nl_21, nl_22, nl_23, nl_24, nl_25, nl_26, nl_27, nl_28, nl_29, nl_30, nl_32, nl_33, nl_34, nl_35, nl_36, nl_37, nl_38, nl_39, nl_40, nl_41, nl_42, nl_43, nl_44, nl_45, nl_46, nl_47, nl_48, nl_49, nl_50, nl_51, nl_52, nl_53, nl_54, nl_55, nl_56, nl_57, nl_58, nl_59, nl_60, nl_61, nl_62, nl_64, nl_65, nl_66, nl_67, nl_68, nl_69, nl_92, nl_97, nl_99, nl_100, nl_122, nl_127, nl_128, nl_131, nl_132, nl_150, nl_200, nl_255, nl_256, nl_300, nl_342, nl_380, nl_381, nl_400, nl_401, nl_420, nl_500, nl_600, nl_800, nl_999, nl_1000, nl_1023, nl_1024, nl_1200, nl_2048, nl_2100, nl_4096, nl_9999, nl_10000, nl_10240, nl_999999, nl_1000000, if_pos, if_neg, x30, x31, x32, x33, c1', hb, nk, n16, k16]
    · obtain ⟨h1, o1, o2, o3⟩ := i2 hm z1 z2 z3 z4
      have o2' : ∀ j, h1 226 j = hi 226 j := fun j => by rw [o2 _ _ (by omega) (by omega) (by omega) (by omega) (by omega)]; exact z4 j
      obtain ⟨h2, p1, p2, p3⟩ := c3 h1 (au_KM_c z1 o2) o3 (by rw [o2']; exact r0) (by rw [o2']; exact r1) (by rw [o2']; exact r2)
      have p1' : mj_dc mj_P E (d + 99) 230 [.ref 205, .int (nI (3 * k))] (mj_hw w c h1 hl) = some (some (.int b), mj_hw w c h2 hl) := p1
      have h40 : h1 205 40 = nI S := by rw [o2 _ _ (by omega) (by omega) (by omega) (by omega) (by omega)]; exact z3
      have e3 : nI 3 * nI k = nI (3 * k) := mj_nImul 3 k
      refine ⟨h2, ?_, au_M_t o2 p2, p3⟩
      rw [o1]
      show mj_den mj_P E (d + 99) 231 13 [.ref 205, .int v, .int (nI k)] [] (mj_hw w c h1 hl) = mj_den mj_P E (d + 99) 231 13 [.ref 205, .int (if b = 0 then v else v + 1), .int (nI (k + 1))] [] (mj_hw w c h2 hl)
      rw [q231_13]
      by_cases hb : b = 0
      · simp (disch := omega) only [q231_28, q231_35, ↓reduceIte, Bool.false_eq_true, eq_self, mj_10, mj_01, mj_n10, mj_0n1, mj_1n1, mj_n11, mj_bi_some, mj_bv_some, mj_bj_some, mj_br_some, mj_r0, mj_r1, mj_q0, mj_q1, mj_b01, mj_q2, if_true, if_false, mj_it, mj_if, true_and, and_true, false_and, and_false, not_true_eq_false, not_false_eq_true, true_or, or_true, false_or, or_false, mj_nIle, mj_nIlt, mj_nIeq, mj_nI0, mj_nIc, mj_nIadd, mj_nIs, mj_ez, mj_ze, mj_eo, mj_ltz, mj_lez, mj_zlt, mj_olt, mj_lto, mj_leo, mj_ole, mj_nIn, mj_nnI, nl_2, nl_3, nl_4, nl_5, nl_6, nl_7, nl_8, nl_9, nl_10, nl_11, nl_12, nl_13, nl_14, nl_15, nl_16, nl_17, nl_18, nl_19, nl_20, nl_21, nl_22, nl_23, nl_24, nl_25, nl_26, nl_27, nl_28, nl_29, nl_30, nl_32, nl_33, nl_34, nl_35, nl_36, nl_37, nl_38, nl_39, nl_40, nl_41, nl_42, nl_43, nl_44, nl_45, nl_46, nl_47, nl_48, nl_49, nl_50, nl_51, nl_52, nl_53, nl_54, nl_55, nl_56, nl_57, nl_58, nl_59, nl_60, nl_61, nl_62, nl_64, nl_65, nl_66, nl_67, nl_68, nl_69, nl_92, nl_97, nl_99, nl_100, nl_122, nl_127, nl_128, nl_131, nl_132, nl_150, nl_200, nl_255, nl_256, nl_300, nl_342, nl_380, nl_381, nl_400, nl_401, nl_420, nl_500, nl_600, nl_800, nl_999, nl_1000, nl_1023, nl_1024, nl_1200, nl_2048, nl_2100, nl_4096, nl_9999, nl_10000, nl_10240, nl_999999, nl_1000000, if_pos, if_neg, h40, e3, p1', hb, nk]
      · simp (disch := omega) only [q231_28, q231_35, ↓reduceIte, Bool.false_eq_true, eq_self, mj_10, mj_01, mj_n10, mj_0n1, mj_1n1, mj_n11, mj_bi_some, mj_bv_some, mj_bj_some, mj_br_some, mj_r0, mj_r1, mj_q0, mj_q1, mj_b01, mj_q2, if_true, if_false, mj_it, mj_if, true_and, and_true, false_and, and_false, not_true_eq_false, not_false_eq_true, true_or, or_true, false_or, or_false, mj_nIle, mj_nIlt, mj_nIeq, mj_nI0, mj_nIc, mj_nIadd, mj_nIs, mj_ez, mj_ze, mj_eo, mj_ltz, mj_lez, mj_zlt, mj_olt, mj_lto, mj_leo, mj_ole, mj_nIn, mj_nnI, nl_2, nl_3, nl_4, nl_5, nl_6, nl_7, nl_8, nl_9, nl_10, nl_11, nl_12, nl_13, nl_14, nl_15, nl_16, nl_17, nl_18, nl_19, nl_20, nl_21, nl_22, nl_23, nl_24, nl_25, nl_26, nl_27, nl_28, nl_29, nl_30, nl_32, nl_33, nl_34, nl_35, nl_36, nl_37, nl_38, nl_39, nl_40, nl_41, nl_42, nl_43, nl_44, nl_45, nl_46, nl_47, nl_48, nl_49, nl_50, nl_51, nl_52, nl_53, nl_54, nl_55, nl_56, nl_57, nl_58, nl_59, nl_60, nl_61, nl_62, nl_64, nl_65, nl_66, nl_67, nl_68, nl_69, nl_92, nl_97, nl_99, nl_100, nl_122, nl_127, nl_128, nl_131, nl_132, nl_150, nl_200, nl_255, nl_256, nl_300, nl_342, nl_380, nl_381, nl_400, nl_401, nl_420, nl_500, nl_600, nl_800, nl_999, nl_1000, nl_1023, nl_1024, nl_1200, nl_2048, nl_2100, nl_4096, nl_9999, nl_10000, nl_10240, nl_999999, nl_1000000, if_pos, if_neg, h40, e3, p1', hb, nk]
