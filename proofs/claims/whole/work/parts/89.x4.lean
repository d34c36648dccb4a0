theorem wz_hi {g : Nat → Nat} {s n : Nat} (h : ∀ j, n ≤ j → j < 10 → s.testBit j = true) (hn : n ≤ 10) : wz_ix g s 10 = wz_ix g s n := by
  have : ∀ i, n + i ≤ 10 → wz_ix g s (n + i) = wz_ix g s n := by
    intro i
    induction i with
    | zero => intro _; rfl
    | succ i ih => intro hi; rw [show n + (i + 1) = (n + i) + 1 by omega, wz_ix_t (h (n + i) (by omega) (by omega)), ih (by omega)]
  have := this (10 - n) (by omega)
  rw [show n + (10 - n) = 10 by omega] at this; exact this
/-- who sits last, as the reference says it -/
def sa_i (last : Nat) : Int32 := if last = 10 then -1 else nI last
section MJ89x5
variable {E : mj_E} {d w c : Nat} {hi : mj_HI} {hl : Nat → Nat → Int64}
theorem s_pb {p u v : Nat} {f t : Nat → Nat} (hu : u < 10) (hv : v < 10) (ht : ∀ i, i < p → t i < 10) (hM : ∀ k, k < 10 → hi 225 k = nI (wv_pn f t (2 ^ k) p)) : mj_dc mj_P E (d + 2) 241 [.ref 205, .int (nI u), .int (nI v)] (mj_hw w c hi hl) = some (some (.int (nI (sa_P f t p u v + sa_P f t p v u))), mj_hw w c hi hl) := by
  have h1 := hM u hu
  have h2 := hM v hv
  have l1 := wv_pn_lt (f := f) (t := t) (s := 2 ^ u) ht
  have l2 := wv_pn_lt (f := f) (t := t) (s := 2 ^ v) ht
  have z : (nI (0 + 0) : Int32) = 0 + 0 := rfl
  unfold sa_P
  by_cases b1 : (wv_pn f t (2 ^ u) p).testBit v = true
  · by_cases b2 : (wv_pn f t (2 ^ v) p).testBit u = true
    · simp (disch := omega) only [q241_0, q241_11, q241_18, q241_19, q241_30, q241_37, q241_38, e241, ↓reduceIte, Bool.false_eq_true, eq_self, mj_10, mj_01, mj_n10, mj_0n1, mj_1n1, mj_n11, mj_bi_some, mj_bv_some, mj_bj_some, mj_br_some, mj_r0, mj_r1, mj_q0, mj_q1, mj_b01, mj_q2, if_true, if_false, mj_it, mj_if, true_and, and_true, false_and, and_false, not_true_eq_false, not_false_eq_true, true_or, or_true, false_or, or_false, mj_nIle, mj_nIlt, mj_nIeq, mj_nI0, mj_nIc, mj_nIadd, mj_nIs, mj_ez, mj_ze, mj_eo, mj_ltz, mj_lez, mj_zlt, mj_olt, mj_lto, mj_leo, mj_ole, mj_nIn, mj_nnI, nl_2, nl_3, nl_4, nl_5, nl_6, nl_7, nl_8, nl_9, nl_10, nl_11, nl_12, nl_13, nl_14, nl_15, nl_16, nl_17, nl_18, nl_19, nl_20, nl_21, nl_22, nl_23, nl_24, nl_25, nl_26, nl_27, nl_28, nl_29, nl_30, nl_32, nl_33, nl_34, nl_35, nl_36, nl_37, nl_38, nl_39, nl_40, nl_41, nl_42, nl_43, nl_44, nl_45, nl_46, nl_47, nl_48, nl_49, nl_50, nl_51, nl_52, nl_53, nl_54, nl_55, nl_56, nl_57, nl_58, nl_59, nl_60, nl_61, nl_62, nl_64, nl_65, nl_66, nl_67, nl_68, nl_69, nl_92, nl_97, nl_99, nl_100, nl_122, nl_127, nl_128, nl_131, nl_132, nl_150, nl_200, nl_255, nl_256, nl_300, nl_342, nl_380, nl_381, nl_400, nl_401, nl_420, nl_500, nl_600, nl_800, nl_999, nl_1000, nl_1023, nl_1024, nl_1200, nl_2048, nl_2100, nl_4096, nl_9999, nl_10000, nl_10240, nl_999999, nl_1000000, if_pos, if_neg, h1, h2, s_hM, b1, b2]; rfl
    · simp (disch := omega) only [q241_0, q241_11, q241_18, q241_19, q241_30, q241_37, q241_38, e241, ↓reduceIte, Bool.false_eq_true, eq_self, mj_10, mj_01, mj_n10, mj_0n1, mj_1n1, mj_n11, mj_bi_some, mj_bv_some, mj_bj_some, mj_br_some, mj_r0, mj_r1, mj_q0, mj_q1, mj_b01, mj_q2, if_true, if_false, mj_it, mj_if, true_and, and_true, false_and, and_false, not_true_eq_false, not_false_eq_true, true_or, or_true, false_or, or_false, mj_nIle, mj_nIlt, mj_nIeq, mj_nI0, mj_nIc, mj_nIadd, mj_nIs, mj_ez, mj_ze, mj_eo, mj_ltz, mj_lez, mj_zlt, mj_olt, mj_lto, mj_leo, mj_ole, mj_nIn, mj_nnI, nl_2, nl_3, nl_4, nl_5, nl_6, nl_7, nl_8, nl_9, nl_10, nl_11, nl_12, nl_13, nl_14, nl_15, nl_16, nl_17, nl_18, nl_19, nl_20, nl_21, nl_22, nl_23, nl_24, nl_25, nl_26, nl_27, nl_28, nl_29, nl_30, nl_32, nl_33, nl_34, nl_35, nl_36, nl_37, nl_38, nl_39, nl_40, nl_41, nl_42, nl_43, nl_44, nl_45, nl_46, nl_47, nl_48, nl_49, nl_50, nl_51, nl_52, nl_53, nl_54, nl_55, nl_56, nl_57, nl_58, nl_59, nl_60, nl_61, nl_62, nl_64, nl_65, nl_66, nl_67, nl_68, nl_69, nl_92, nl_97, nl_99, nl_100, nl_122, nl_127, nl_128, nl_131, nl_132, nl_150, nl_200, nl_255, nl_256, nl_300, nl_342, nl_380, nl_381, nl_400, nl_401, nl_420, nl_500, nl_600, nl_800, nl_999, nl_1000, nl_1023, nl_1024, nl_1200, nl_2048, nl_2100, nl_4096, nl_9999, nl_10000, nl_10240, nl_999999, nl_1000000, if_pos, if_neg, h1, h2, s_hM, b1, b2]; rfl
  · by_cases b2 : (wv_pn f t (2 ^ v) p).testBit u = true
    · simp (disch := omega) only [q241_0, q241_11, q241_18, q241_19, q241_30, q241_37, q241_38, e241, ↓reduceIte, Bool.false_eq_true, eq_self, mj_10, mj_01, mj_n10, mj_0n1, mj_1n1, mj_n11, mj_bi_some, mj_bv_some, mj_bj_some, mj_br_some, mj_r0, mj_r1, mj_q0, mj_q1, mj_b01, mj_q2, if_true, if_false, mj_it, mj_if, true_and, and_true, false_and, and_false, not_true_eq_false, not_false_eq_true, true_or, or_true, false_or, or_false, mj_nIle, mj_nIlt, mj_nIeq, mj_nI0, mj_nIc, mj_nIadd, mj_nIs, mj_ez, mj_ze, mj_eo, mj_ltz, mj_lez, mj_zlt, mj_olt, mj_lto, mj_leo, mj_ole, mj_nIn, mj_nnI, nl_2, nl_3, nl_4, nl_5, nl_6, nl_7, nl_8, nl_9, nl_10, nl_11, nl_12, nl_13, nl_14, nl_15, nl_16, nl_17, nl_18, nl_19, nl_20, nl_21, nl_22, nl_23, nl_24, nl_25, nl_26, nl_27, nl_28, nl_29, nl_30, nl_32, nl_33, nl_34, nl_35, nl_36, nl_37, nl_38, nl_39, nl_40, nl_41, nl_42, nl_43, nl_44, nl_45, nl_46, nl_47, nl_48, nl_49, nl_50, nl_51, nl_52, nl_53, nl_54, nl_55, nl_56, nl_57, nl_58, nl_59, nl_60, nl_61, nl_62, nl_64, nl_65, nl_66, nl_67, nl_68, nl_69, nl_92, nl_97, nl_99, nl_100, nl_122, nl_127, nl_128, nl_131, nl_132, nl_150, nl_200, nl_255, nl_256, nl_300, nl_342, nl_380, nl_381, nl_400, nl_401, nl_420, nl_500, nl_600, nl_800, nl_999, nl_1000, nl_1023, nl_1024, nl_1200, nl_2048, nl_2100, nl_4096, nl_9999, nl_10000, nl_10240, nl_999999, nl_1000000, if_pos, if_neg, h1, h2, s_hM, b1, b2]; rfl
    · simp (disch := omega) only [q241_0, q241_11, q241_18, q241_19, q241_30, q241_37, q241_38, e241, ↓reduceIte, Bool.false_eq_true, eq_self, mj_10, mj_01, mj_n10, mj_0n1, mj_1n1, mj_n11, mj_bi_some, mj_bv_some, mj_bj_some, mj_br_some, mj_r0, mj_r1, mj_q0, mj_q1, mj_b01, mj_q2, if_true, if_false, mj_it, mj_if, true_and, and_true, false_and, and_false, not_true_eq_false, not_false_eq_true, true_or, or_true, false_or, or_false, mj_nIle, mj_nIlt, mj_nIeq, mj_nI0, mj_nIc, mj_nIadd, mj_nIs, mj_ez, mj_ze, mj_eo, mj_ltz, mj_lez, mj_zlt, mj_olt, mj_lto, mj_leo, mj_ole, mj_nIn, mj_nnI, nl_2, nl_3, nl_4, nl_5, nl_6, nl_7, nl_8, nl_9, nl_10, nl_11, nl_12, nl_13, nl_14, nl_15, nl_16, nl_17, nl_18, nl_19, nl_20, nl_21, nl_22, nl_23, nl_24, nl_25, nl_26, nl_27, nl_28, nl_29, nl_30, nl_32, nl_33, nl_34, nl_35, nl_36, nl_37, nl_38, nl_39, nl_40, nl_41, nl_42, nl_43, nl_44, nl_45, nl_46, nl_47, nl_48, nl_49, nl_50, nl_51, nl_52, nl_53, nl_54, nl_55, nl_56, nl_57, nl_58, nl_59, nl_60, nl_61, nl_62, nl_64, nl_65, nl_66, nl_67, nl_68, nl_69, nl_92, nl_97, nl_99, nl_100, nl_122, nl_127, nl_128, nl_131, nl_132, nl_150, nl_200, nl_255, nl_256, nl_300, nl_342, nl_380, nl_381, nl_400, nl_401, nl_420, nl_500, nl_600, nl_800, nl_999, nl_1000, nl_1023, nl_1024, nl_1200, nl_2048, nl_2100, nl_4096, nl_9999, nl_10000, nl_10240, nl_999999, nl_1000000, if_pos, if_neg, h1, h2, s_hM, b1, b2]; rfl
theorem s_satBy {p s last x : Nat} {f t : Nat → Nat} {Q : Nat → Nat} (hs : s < 1024) (hlast : last ≤ 10) (hx : x < 10) (ht : ∀ i, i < p → t i < 10) (hM : ∀ k, k < 10 → hi 225 k = nI (wv_pn f t (2 ^ k) p)) (hQ : hi 229 (10 * (s ||| 2 ^ x) + x) = nI (Q (11 * (s ||| 2 ^ x) + x))) : mj_dc mj_P E (d + 3) 242 [.ref 205, .int (nI s), .int (sa_i last), .int (nI x)] (mj_hw w c hi hl) = some (some (.int (nI (sa_g (sa_P f t p) Q s last x))), mj_hw w c hi hl) := by
  have hlt : s ||| 2 ^ x < 1024 := Nat.or_lt_two_pow (n := 10) hs (Nat.pow_lt_pow_right (by omega) hx)
  have e1 : nI 10 * (nI s ||| ((1 : Int32) <<< (nI x &&& 31))) + nI x = nI (10 * (s ||| 2 ^ x) + x) := by rw [bx_one x (by omega), bx_or, mj_nImul, mj_nIadd]
  unfold sa_g sa_b sa_i
  by_cases h10 : last = 10
  · rw [if_pos h10, if_pos h10, Nat.zero_add]
    simp (disch := omega) only [e242, q242_0, q242_15, ↓reduceIte, Bool.false_eq_true, eq_self, mj_10, mj_01, mj_n10, mj_0n1, mj_1n1, mj_n11, mj_bi_some, mj_bv_some, mj_bj_some, mj_br_some, mj_r0, mj_r1, mj_q0, mj_q1, mj_b01, mj_q2, if_true, if_false, mj_it, mj_if, true_and, and_true, false_and, and_false, not_true_eq_false, not_false_eq_true, true_or, or_true, false_or, or_false, mj_nIle, mj_nIlt, mj_nIeq, mj_nI0, mj_nIc, mj_nIadd, mj_nIs, mj_ez, mj_ze, mj_eo, mj_ltz, mj_lez, mj_zlt, mj_olt, mj_lto, mj_leo, mj_ole, mj_nIn, mj_nnI, nl_2, nl_3, nl_4, nl_5, nl_6, nl_7, nl_8, nl_9, nl_10, nl_11, nl_12, nl_13, nl_14, nl_15, nl_16, nl_17, nl_18, nl_19, nl_20, nl_21, nl_22, nl_23, nl_24, nl_25, nl_26, nl_27, nl_28, nl_29, nl_30, nl_32, nl_33, nl_34, nl_35, nl_36, nl_37, nl_38, nl_39, nl_40, nl_41, nl_42, nl_43, nl_44, nl_45, nl_46, nl_47, nl_48, nl_49, nl_50, nl_51, nl_52, nl_53, nl_54, nl_55, nl_56, nl_57, nl_58, nl_59, nl_60, nl_61, nl_62, nl_64, nl_65, nl_66, nl_67, nl_68, nl_69, nl_92, nl_97, nl_99, nl_100, nl_122, nl_127, nl_128, nl_131, nl_132, nl_150, nl_200, nl_255, nl_256, nl_300, nl_342, nl_380, nl_381, nl_400, nl_401, nl_420, nl_500, nl_600, nl_800, nl_999, nl_1000, nl_1023, nl_1024, nl_1200, nl_2048, nl_2100, nl_4096, nl_9999, nl_10000, nl_10240, nl_999999, nl_1000000, if_pos, if_neg, e1, hQ, Int32.zero_add]
  · rw [if_neg h10, if_neg h10]
    have ep := s_pb (E := E) (d := d) (w := w) (c := c) (hi := hi) (hl := hl) (u := last) (v := x) (by omega) hx ht hM
    have hne : ¬ nI last = (-1 : Int32) := by
      intro z
      have : (0 : Int32) ≤ nI last := by rw [mj_nI0 (by omega)]; trivial
      rw [z] at this; exact absurd this (by decide)
    simp (disch := omega) only [e242, q242_0, q242_9, q242_15, ↓reduceIte, Bool.false_eq_true, eq_self, mj_10, mj_01, mj_n10, mj_0n1, mj_1n1, mj_n11, mj_bi_some, mj_bv_some, mj_bj_some, mj_br_some, mj_r0, mj_r1, mj_q0, mj_q1, mj_b01, mj_q2, if_true, if_false, mj_it, mj_if, true_and, and_true, false_and, and_false, not_true_eq_false, not_false_eq_true, true_or, or_true, false_or, or_false, mj_nIle, mj_nIlt, mj_nIeq, mj_nI0, mj_nIc, mj_nIadd, mj_nIs, mj_ez, mj_ze, mj_eo, mj_ltz, mj_lez, mj_zlt, mj_olt, mj_lto, mj_leo, mj_ole, mj_nIn, mj_nnI, nl_2, nl_3, nl_4, nl_5, nl_6, nl_7, nl_8, nl_9, nl_10, nl_11, nl_12, nl_13, nl_14, nl_15, nl_16, nl_17, nl_18, nl_19, nl_20, nl_21, nl_22, nl_23, nl_24, nl_25, nl_26, nl_27, nl_28, nl_29, nl_30, nl_32, nl_33, nl_34, nl_35, nl_36, nl_37, nl_38, nl_39, nl_40, nl_41, nl_42, nl_43, nl_44, nl_45, nl_46, nl_47, nl_48, nl_49, nl_50, nl_51, nl_52, nl_53, nl_54, nl_55, nl_56, nl_57, nl_58, nl_59, nl_60, nl_61, nl_62, nl_64, nl_65, nl_66, nl_67, nl_68, nl_69, nl_92, nl_97, nl_99, nl_100, nl_122, nl_127, nl_128, nl_131, nl_132, nl_150, nl_200, nl_255, nl_256, nl_300, nl_342, nl_380, nl_381, nl_400, nl_401, nl_420, nl_500, nl_600, nl_800, nl_999, nl_1000, nl_1023, nl_1024, nl_1200, nl_2048, nl_2100, nl_4096, nl_9999, nl_10000, nl_10240, nl_999999, nl_1000000, if_pos, if_neg, e1, hQ, hne, ep]
theorem s_leastSat {n p T s last : Nat} {f t : Nat → Nat} {Q : Nat → Nat} (hn : n ≤ 10) (hT : T < 2 ^ n) (hlast : last ≤ 10) (hsub : ∀ i, s.testBit i = true → T.testBit i = true) (h6 : hi 205 6 = nI n) (ht : ∀ i, i < p → t i < 10) (hM : ∀ k, k < 10 → hi 225 k = nI (wv_pn f t (2 ^ k) p)) (hQ : ∀ s last, s ≤ 1023 → last ≤ 10 → Q (11 * s + last) = sa_F (sa_P f t p) T Q s last) (hq : ∀ x, x < 10 → (wbl T s).testBit x = false → hi 229 (10 * (s ||| 2 ^ x) + x) = nI (Q (11 * (s ||| 2 ^ x) + x))) : mj_dc mj_P E (d + 4) 243 [.ref 205, .int (nI s), .int (sa_i last), .int (nI T)] (mj_hw w c hi hl) = some (some (.int (nI (Q (11 * s + last)))), mj_hw w c hi hl) := by
  have h1024 : 2 ^ n ≤ 1024 := Nat.pow_le_pow_right (n := 2) (by omega) hn
  have hsT := mj_sub_le hsub
  have hQb := sa_bd (sa_P_bd f t p) hQ
  by_cases hst : s = T
  · subst hst
    rw [sa_T (by omega) hQ last hlast]
    rw [e243, q243_0, if_neg (fun h => h rfl)]; rfl
  · have hne : ¬ nI s = nI T := by rw [mj_nIeq (by omega) (by omega)]; exact hst
    have hsx : ∀ x, x < 10 → (wbl T s).testBit x = false → mj_dc mj_P E (d + 3) 242 [.ref 205, .int (nI s), .int (sa_i last), .int (nI x)] (mj_hw w c hi hl) = some (some (.int (nI (sa_g (sa_P f t p) Q s last x))), mj_hw w c hi hl) ∧ sa_g (sa_P f t p) Q s last x ≤ 30000 := fun x hx hc => by
      refine ⟨s_satBy (d := d) (by omega) hlast hx ht hM (hq x hx hc), ?_⟩
      have hle := mj_sub_le (mj_sub_or hsub ((wbl_clear hx).mp hc).2)
      have h1 := hQb (s ||| 2 ^ x) x (by omega) (by omega)
      have h2 := sa_b_bd (sa_P_bd f t p) last x
      unfold sa_g; omega
    have hdl : mj_df T s < 1024 := mj_df_le (n := 10) _ _ (by omega)
    obtain ⟨g, hg⟩ : ∃ g : Nat → Nat, g = sa_g (sa_P f t p) Q s last := ⟨_, rfl⟩
    rw [← hg] at hsx
    have l1 := lp_up (fun k => mj_den mj_P E (d + 3) 243 15 [.ref 205, .int (nI s), .int (sa_i last), .int (nI T), .int (nI (wz_v g 100000000 (wz_ix g (wbl T s) k))), .int (nI k)] [] (mj_hw w c hi hl)) n (fun k hk => by
      show mj_den mj_P E (d + 3) 243 15 [.ref 205, .int (nI s), .int (sa_i last), .int (nI T), .int (nI (wz_v g 100000000 (wz_ix g (wbl T s) k))), .int (nI k)] [] (mj_hw w c hi hl) = mj_den mj_P E (d + 3) 243 15 [.ref 205, .int (nI s), .int (sa_i last), .int (nI T), .int (nI (wz_v g 100000000 (wz_ix g (wbl T s) (k + 1)))), .int (nI (k + 1))] [] (mj_hw w c hi hl)
      have hbit : (mj_df T s).testBit k = !(wbl T s).testBit k := by
        rw [mj_df_bit, wbl_bit (by omega)]
        cases T.testBit k <;> cases s.testBit k <;> rfl
      have nk : ¬ n ≤ k := by omega
      rw [q243_15, h6]
      by_cases hb : (wbl T s).testBit k = true
      · rw [hb] at hbit
        have hbit : (mj_df T s).testBit k = false := hbit
        rw [wz_ix_t hb]
        simp (disch := omega) only [↓reduceIte, Bool.false_eq_true, eq_self, mj_10, mj_01, mj_n10, mj_0n1, mj_1n1, mj_n11, mj_bi_some, mj_bv_some, mj_bj_some, mj_br_some, mj_r0, mj_r1, mj_q0, mj_q1, mj_b01, mj_q2, if_true, if_false, mj_it, mj_if, true_and, and_true, false_and, and_false, not_true_eq_false, not_false_eq_true, true_or, or_true, false_or, or_false, mj_nIle, mj_nIlt, mj_nIeq, mj_nI0, mj_nIc, mj_nIadd, mj_nIs, mj_ez, mj_ze, mj_eo, mj_ltz, mj_lez, mj_zlt, mj_olt, mj_lto, mj_leo, mj_ole, mj_nIn, mj_nnI, nl_2, nl_3, nl_4, nl_5, nl_6, nl_7, nl_8, nl_9, nl_10, nl_11, nl_12, nl_13, nl_14, nl_15, nl_16, nl_17, nl_18, nl_19, nl_20, nl_21, nl_22, nl_23, nl_24, nl_25, nl_26, nl_27, nl_28, nl_29, nl_30, nl_32, nl_33, nl_34, nl_35, nl_36, nl_37, nl_38, nl_39, nl_40, nl_41, nl_42, nl_43, nl_44, nl_45, nl_46, nl_47, nl_48, nl_49, nl_50, nl_51, nl_52, nl_53, nl_54, nl_55, nl_56, nl_57, nl_58, nl_59, nl_60, nl_61, nl_62, nl_64, nl_65, nl_66, nl_67, nl_68, nl_69, nl_92, nl_97, nl_99, nl_100, nl_122, nl_127, nl_128, nl_131, nl_132, nl_150, nl_200, nl_255, nl_256, nl_300, nl_342, nl_380, nl_381, nl_400, nl_401, nl_420, nl_500, nl_600, nl_800, nl_999, nl_1000, nl_1023, nl_1024, nl_1200, nl_2048, nl_2100, nl_4096, nl_9999, nl_10000, nl_10240, nl_999999, nl_1000000, if_pos, if_neg, bx_df, s_hM, hbit, nk, q243_35, q243_54]
      · have hb2 : (wbl T s).testBit k = false := by simpa using hb
        rw [hb2] at hbit
        have hbit : (mj_df T s).testBit k = true := hbit
        obtain ⟨eb, bb⟩ := hsx k (by omega) hb2
        cases hw : wz_ix g (wbl T s) k with
        | none =>
          rw [wz_ix_n hb hw]
          have hlt : g k < 100000000 := by omega
          simp (disch := omega) only [↓reduceIte, Bool.false_eq_true, eq_self, mj_10, mj_01, mj_n10, mj_0n1, mj_1n1, mj_n11, mj_bi_some, mj_bv_some, mj_bj_some, mj_br_some, mj_r0, mj_r1, mj_q0, mj_q1, mj_b01, mj_q2, if_true, if_false, mj_it, mj_if, true_and, and_true, false_and, and_false, not_true_eq_false, not_false_eq_true, true_or, or_true, false_or, or_false, mj_nIle, mj_nIlt, mj_nIeq, mj_nI0, mj_nIc, mj_nIadd, mj_nIs, mj_ez, mj_ze, mj_eo, mj_ltz, mj_lez, mj_zlt, mj_olt, mj_lto, mj_leo, mj_ole, mj_nIn, mj_nnI, nl_2, nl_3, nl_4, nl_5, nl_6, nl_7, nl_8, nl_9, nl_10, nl_11, nl_12, nl_13, nl_14, nl_15, nl_16, nl_17, nl_18, nl_19, nl_20, nl_21, nl_22, nl_23, nl_24, nl_25, nl_26, nl_27, nl_28, nl_29, nl_30, nl_32, nl_33, nl_34, nl_35, nl_36, nl_37, nl_38, nl_39, nl_40, nl_41, nl_42, nl_43, nl_44, nl_45, nl_46, nl_47, nl_48, nl_49, nl_50, nl_51, nl_52, nl_53, nl_54, nl_55, nl_56, nl_57, nl_58, nl_59, nl_60, nl_61, nl_62, nl_64, nl_65, nl_66, nl_67, nl_68, nl_69, nl_92, nl_97, nl_99, nl_100, nl_122, nl_127, nl_128, nl_131, nl_132, nl_150, nl_200, nl_255, nl_256, nl_300, nl_342, nl_380, nl_381, nl_400, nl_401, nl_420, nl_500, nl_600, nl_800, nl_999, nl_1000, nl_1023, nl_1024, nl_1200, nl_2048, nl_2100, nl_4096, nl_9999, nl_10000, nl_10240, nl_999999, nl_1000000, if_pos, if_neg, bx_df, s_hM, hbit, nk, q243_35, eb, q243_49, s_lesser, q243_52, q243_54, wz_v, hlt]
        | some m =>
          obtain ⟨m1, m2, _, _⟩ := (wz_ix_ok _ _ k).2 m hw
          obtain ⟨_, bm⟩ := hsx m (by omega) m2
          rw [wz_ix_s hb hw]
          by_cases hlt : g k < g m
          · rw [if_pos hlt]
            simp (disch := omega) only [↓reduceIte, Bool.false_eq_true, eq_self, mj_10, mj_01, mj_n10, mj_0n1, mj_1n1, mj_n11, mj_bi_some, mj_bv_some, mj_bj_some, mj_br_some, mj_r0, mj_r1, mj_q0, mj_q1, mj_b01, mj_q2, if_true, if_false, mj_it, mj_if, true_and, and_true, false_and, and_false, not_true_eq_false, not_false_eq_true, true_or, or_true, false_or, or_false, mj_nIle, mj_nIlt, mj_nIeq, mj_nI0, mj_nIc, mj_nIadd, mj_nIs, mj_ez, mj_ze, mj_eo, mj_ltz, mj_lez, mj_zlt, mj_olt, mj_lto, mj_leo, mj_ole, mj_nIn, mj_nnI, nl_2, nl_3, nl_4, nl_5, nl_6, nl_7, nl_8, nl_9, nl_10, nl_11, nl_12, nl_13, nl_14, nl_15, nl_16, nl_17, nl_18, nl_19, nl_20, nl_21, nl_22, nl_23, nl_24, nl_25, nl_26, nl_27, nl_28, nl_29, nl_30, nl_32, nl_33, nl_34, nl_35, nl_36, nl_37, nl_38, nl_39, nl_40, nl_41, nl_42, nl_43, nl_44, nl_45, nl_46, nl_47, nl_48, nl_49, nl_50, nl_51, nl_52, nl_53, nl_54, nl_55, nl_56, nl_57, nl_58, nl_59, nl_60, nl_61, nl_62, nl_64, nl_65, nl_66, nl_67, nl_68, nl_69, nl_92, nl_97, nl_99, nl_100, nl_122, nl_127, nl_128, nl_131, nl_132, nl_150, nl_200, nl_255, nl_256, nl_300, nl_342, nl_380, nl_381, nl_400, nl_401, nl_420, nl_500, nl_600, nl_800, nl_999, nl_1000, nl_1023, nl_1024, nl_1200, nl_2048, nl_2100, nl_4096, nl_9999, nl_10000, nl_10240, nl_999999, nl_1000000, if_pos, if_neg, bx_df, s_hM, hbit, nk, q243_35, eb, q243_49, s_lesser, q243_52, q243_54, wz_v, hlt]
          · rw [if_neg hlt]
            simp (disch := omega) only [↓reduceIte, Bool.false_eq_true, eq_self, mj_10, mj_01, mj_n10, mj_0n1, mj_1n1, mj_n11, mj_bi_some, mj_bv_some, mj_bj_some, mj_br_some, mj_r0, mj_r1, mj_q0, mj_q1, mj_b01, mj_q2, if_true, if_false, mj_it, mj_if, true_and, and_true, false_and, and_false, not_true_eq_false, not_false_eq_true, true_or, or_true, false_or, or_false, mj_nIle, mj_nIlt, mj_nIeq, mj_nI0, mj_nIc, mj_nIadd, mj_nIs, mj_ez, mj_ze, mj_eo, mj_ltz, mj_lez, mj_zlt, mj_olt, mj_lto, mj_leo, mj_ole, mj_nIn, mj_nnI, nl_2, nl_3, nl_4, nl_5, nl_6, nl_7, nl_8, nl_9, nl_10, nl_11, nl_12, nl_13, nl_14, nl_15, nl_16, nl_17, nl_18, nl_19, nl_20, nl_21, nl_22, nl_23, nl_24, nl_25, nl_26, nl_27, nl_28, nl_29, nl_30, nl_32, nl_33, nl_34, nl_35, nl_36, nl_37, nl_38, nl_39, nl_40, nl_41, nl_42, nl_43, nl_44, nl_45, nl_46, nl_47, nl_48, nl_49, nl_50, nl_51, nl_52, nl_53, nl_54, nl_55, nl_56, nl_57, nl_58, nl_59, nl_60, nl_61, nl_62, nl_64, nl_65, nl_66, nl_67, nl_68, nl_69, nl_92, nl_97, nl_99, nl_100, nl_122, nl_127, nl_128, nl_131, nl_132, nl_150, nl_200, nl_255, nl_256, nl_300, nl_342, nl_380, nl_381, nl_400, nl_401, nl_420, nl_500, nl_600, nl_800, nl_999, nl_1000, nl_1023, nl_1024, nl_1200, nl_2048, nl_2100, nl_4096, nl_9999, nl_10000, nl_10240, nl_999999, nl_1000000, if_pos, if_neg, bx_df, s_hM, hbit, nk, q243_35, eb, q243_49, s_lesser, q243_52, q243_54, wz_v, hlt])
    have hTn : ∀ j, n ≤ j → T.testBit j = false := fun j hj => Nat.testBit_lt_two_pow (Nat.lt_of_lt_of_le hT (Nat.pow_le_pow_right (n := 2) (by omega) hj))
    have hend : wz_v g 100000000 (wz_ix g (wbl T s) n) = Q (11 * s + last) := by
      rw [hQ s last (by omega) hlast]
      unfold sa_F sa_ix
      rw [← hg, wz_hi (fun j h1 h2 => by rw [wbl_bit h2, hTn j h1]; simp) hn]
      cases hw : wz_ix g (wbl T s) n with
      | some m => rfl
      | none =>
        exfalso
        have hall := (wz_ix_ok _ _ n).1 hw
        have hTs : ∀ i, T.testBit i = true → s.testBit i = true := fun i hi => by
          by_cases h10 : i < n
          · have := hall i h10
            rw [wbl_bit (by omega), hi] at this
            simpa using this
          · rw [hTn i (by omega)] at hi; cases hi
        have := mj_sub_le hTs
        omega
    rw [hend] at l1
    have l1' : mj_den mj_P E (d + 3) 243 15 [.ref 205, .int (nI s), .int (sa_i last), .int (nI T), .int 100000000, .int 0] [] (mj_hw w c hi hl) = mj_den mj_P E (d + 3) 243 15 [.ref 205, .int (nI s), .int (sa_i last), .int (nI T), .int (nI (Q (11 * s + last))), .int (nI n)] [] (mj_hw w c hi hl) := l1
    rw [e243, q243_0, if_pos hne, q243_7, l1', q243_15, h6, if_pos (Int32.le_refl _), q243_60]
theorem s_findsSat {n p T : Nat} {f t : Nat → Nat} {Q : Nat → Nat} (hn : n ≤ 10) (hT : T < 2 ^ n) (h6 : hi 205 6 = nI n) (ht : ∀ i, i < p → t i < 10) (hM : ∀ k, k < 10 → hi 225 k = nI (wv_pn f t (2 ^ k) p)) (hQ : ∀ s last, s ≤ 1023 → last ≤ 10 → Q (11 * s + last) = sa_F (sa_P f t p) T Q s last) : ∃ g : mj_HI, mj_dc mj_P E (d + 5) 244 [.ref 205, .int (nI T)] (mj_hw w c hi hl) = some (none, mj_hw w c g hl) ∧ (∀ s l, 0 < s → (∀ i, s.testBit i = true → T.testBit i = true) → l < 10 → s.testBit l = true → g 229 (10 * s + l) = nI (Q (11 * s + l))) ∧ ∀ a k, a ≠ 229 → g a k = hi a k := by
  have h1024 : 2 ^ n ≤ 1024 := Nat.pow_le_pow_right (n := 2) (by omega) hn
  have hTn : ∀ j, n ≤ j → T.testBit j = false := fun j hj => Nat.testBit_lt_two_pow (Nat.lt_of_lt_of_le hT (Nat.pow_le_pow_right (n := 2) (by omega) hj))
  have key1 := lp_ex (fun j (q : Value × mj_HI) => mj_den mj_P E (d + 4) 244 2 [.ref 205, .int (nI T), .int (nI (T - j)), q.1] [] (mj_hw w c q.2 hl)) (fun j q => (∀ s l, T - j < s → (∀ i, s.testBit i = true → T.testBit i = true) → l < 10 → s.testBit l = true → q.2 229 (10 * s + l) = nI (Q (11 * s + l))) ∧ ∀ a k, a ≠ 229 → q.2 a k = hi a k) T (fun j q hj hI => ?_) (.float 0, hi) ⟨fun s l h1 h2 => absurd (mj_sub_le h2) (by omega), fun _ _ _ => rfl⟩
  · obtain ⟨⟨u3, g⟩, e1, a2, a3⟩ := key1
    simp only at a2 a3
    have e1' : mj_den mj_P E (d + 4) 244 2 [.ref 205, .int (nI T), .int (nI T), .float 0] [] (mj_hw w c hi hl) = mj_den mj_P E (d + 4) 244 2 [.ref 205, .int (nI T), .int (nI (T - T)), u3] [] (mj_hw w c g hl) := e1
    refine ⟨g, ?_, fun s l h1 h2 h3 h4 => a2 s l (by omega) h2 h3 h4, a3⟩
    rw [xg244, g244_0, e1', show T - T = 0 by omega, g244_2, if_pos (by decide), g244_66]
  · obtain ⟨u3, g3⟩ := q
    obtain ⟨a2, a3⟩ := hI
    simp only at a2 a3
    obtain ⟨s, hs⟩ : ∃ s, s = T - j := ⟨_, rfl⟩
    have hs1 : 1 ≤ s := by omega
    have hs3 : T - (j + 1) = s - 1 := by omega
    have ev2 : nI s + -1 = nI (s - 1) := by rw [← mj_nIp hs1]; exact (Int32.sub_eq_add_neg _ _).symm
    have nle : ¬ nI s ≤ (0 : Int32) := by rw [show (0 : Int32) = nI 0 from rfl, mj_nIle (by omega) (by omega)]; omega
    rw [← hs] at a2
    by_cases hsub : ∀ i, s.testBit i = true → T.testBit i = true
    · have hdf : mj_df s T = 0 := mj_df_0.mpr hsub
      have key := lp_ex (fun l (h : mj_HI) => mj_den mj_P E (d + 4) 244 19 [.ref 205, .int (nI T), .int (nI s), .int (nI l)] [] (mj_hw w c h hl)) (fun l h => (∀ s' l', s < s' ∨ (s' = s ∧ l' < l) → (∀ i, s'.testBit i = true → T.testBit i = true) → l' < 10 → s'.testBit l' = true → h 229 (10 * s' + l') = nI (Q (11 * s' + l'))) ∧ ∀ a k, a ≠ 229 → h a k = hi a k) n (fun l h hln hI => ?_) g3 ⟨fun s' l' h1 h2 h3 h4 => a2 s' l' (by omega) h2 h3 h4, a3⟩
      · obtain ⟨g5, e, c2, c3⟩ := key
        have e' : mj_den mj_P E (d + 4) 244 19 [.ref 205, .int (nI T), .int (nI s), .int 0] [] (mj_hw w c g3 hl) = mj_den mj_P E (d + 4) 244 19 [.ref 205, .int (nI T), .int (nI s), .int (nI n)] [] (mj_hw w c g5 hl) := e
        have h56 : g5 205 6 = nI n := by rw [c3 _ _ (by omega)]; exact h6
        refine ⟨(.int (nI n), g5), ?_, fun s' l' h1 h2 h3 h4 => ?_, c3⟩
        · show mj_den mj_P E (d + 4) 244 2 [.ref 205, .int (nI T), .int (nI (T - j)), u3] [] (mj_hw w c g3 hl) = mj_den mj_P E (d + 4) 244 2 [.ref 205, .int (nI T), .int (nI (T - (j + 1))), .int (nI n)] [] (mj_hw w c g5 hl)
          rw [← hs, hs3, g244_2, if_neg nle, bx_df, hdf, if_pos (show nI 0 = 0 from rfl), g244_17, e', g244_19, h56, if_pos (Int32.le_refl _), g244_60, ev2]
        · show g5 229 (10 * s' + l') = _
          refine c2 s' l' ?_ h2 h3 h4
          by_cases hss : s' = s
          · refine Or.inr ⟨hss, ?_⟩
            by_cases hln : l' < n
            · exact hln
            · have := h2 l' h4
              rw [hTn l' (by omega)] at this; cases this
          · exact Or.inl (by omega)
      · obtain ⟨c2, c3⟩ := hI
        have h56 : h 205 6 = nI n := by rw [c3 _ _ (by omega)]; exact h6
        have nl' : ¬ n ≤ l := by omega
        have e10 : nI 10 * nI s + nI l = nI (10 * s + l) := by rw [mj_nImul, mj_nIadd]
        have hil : sa_i l = nI l := if_neg (by omega)
        by_cases hb : s.testBit l = true
        · have eL := s_leastSat (E := E) (d := d) (w := w) (c := c) (hi := h) (hl := hl) (n := n) (p := p) (T := T) (s := s) (last := l) (f := f) (t := t) (Q := Q) hn hT (by omega) hsub h56 ht (fun k hk => by rw [c3 _ _ (by omega)]; exact hM k hk) hQ (fun x hx hc => by
            obtain ⟨x1, x2⟩ := (wbl_clear hx).mp hc
            exact c2 _ _ (Or.inl (wz_or_gt x1)) (mj_sub_or hsub x2) hx (by rw [wz_or_bit, decide_eq_true rfl, Bool.or_true]))
          rw [hil] at eL
          refine ⟨mj_u h 229 (10 * s + l) (nI (Q (11 * s + l))), ?_, fun s' l' h1 h2 h3 h4 => ?_, fun a k ha => by rw [mj_u_pt (by omega)]; exact c3 a k ha⟩
          · show mj_den mj_P E (d + 4) 244 19 [.ref 205, .int (nI T), .int (nI s), .int (nI l)] [] (mj_hw w c h hl) = mj_den mj_P E (d + 4) 244 19 [.ref 205, .int (nI T), .int (nI s), .int (nI (l + 1))] [] (mj_hw w c (mj_u h 229 (10 * s + l) (nI (Q (11 * s + l)))) hl)
            rw [g244_19, h56]
            simp (disch := omega) only [↓reduceIte, Bool.false_eq_true, eq_self, mj_10, mj_01, mj_n10, mj_0n1, mj_1n1, mj_n11, mj_bi_some, mj_bv_some, mj_bj_some, mj_br_some, mj_r0, mj_r1, mj_q0, mj_q1, mj_b01, mj_q2, if_true, if_false, mj_it, mj_if, true_and, and_true, false_and, and_false, not_true_eq_false, not_false_eq_true, true_or, or_true, false_or, or_false, mj_nIle, mj_nIlt, mj_nIeq, mj_nI0, mj_nIc, mj_nIadd, mj_nIs, mj_ez, mj_ze, mj_eo, mj_ltz, mj_lez, mj_zlt, mj_olt, mj_lto, mj_leo, mj_ole, mj_nIn, mj_nnI, nl_2, nl_3, nl_4, nl_5, nl_6, nl_7, nl_8, nl_9, nl_10, nl_11, nl_12, nl_13, nl_14, nl_15, nl_16, nl_17, nl_18, nl_19, nl_20, nl_21, nl_22, nl_23, nl_24, nl_25, nl_26, nl_27, nl_28, nl_29, nl_30, nl_32, nl_33, nl_34, nl_35, nl_36, nl_37, nl_38, nl_39, nl_40, nl_41, nl_42, nl_43, nl_44, nl_45, nl_46, nl_47, nl_48, nl_49, nl_50, nl_51, nl_52, nl_53, nl_54, nl_55, nl_56, nl_57, nl_58, nl_59, nl_60, nl_61, nl_62, nl_64, nl_65, nl_66, nl_67, nl_68, nl_69, nl_92, nl_97, nl_99, nl_100, nl_122, nl_127, nl_128, nl_131, nl_132, nl_150, nl_200, nl_255, nl_256, nl_300, nl_342, nl_380, nl_381, nl_400, nl_401, nl_420, nl_500, nl_600, nl_800, nl_999, nl_1000, nl_1023, nl_1024, nl_1200, nl_2048, nl_2100, nl_4096, nl_9999, nl_10000, nl_10240, nl_999999, nl_1000000, if_pos, if_neg, nl', s_hM, hb, g244_33, eL, e10, g244_53, g244_54]
          · by_cases hsl' : s' = s ∧ l' = l
            · obtain ⟨rfl, rfl⟩ := hsl'; rw [mj_u_eq]
            · rw [mj_u_pt (by omega)]; exact c2 s' l' (by omega) h2 h3 h4
        · refine ⟨h, ?_, fun s' l' h1 h2 h3 h4 => ?_, c3⟩
          · show mj_den mj_P E (d + 4) 244 19 [.ref 205, .int (nI T), .int (nI s), .int (nI l)] [] (mj_hw w c h hl) = mj_den mj_P E (d + 4) 244 19 [.ref 205, .int (nI T), .int (nI s), .int (nI (l + 1))] [] (mj_hw w c h hl)
            rw [g244_19, h56]
            simp (disch := omega) only [↓reduceIte, Bool.false_eq_true, eq_self, mj_10, mj_01, mj_n10, mj_0n1, mj_1n1, mj_n11, mj_bi_some, mj_bv_some, mj_bj_some, mj_br_some, mj_r0, mj_r1, mj_q0, mj_q1, mj_b01, mj_q2, if_true, if_false, mj_it, mj_if, true_and, and_true, false_and, and_false, not_true_eq_false, not_false_eq_true, true_or, or_true, false_or, or_false, mj_nIle, mj_nIlt, mj_nIeq, mj_nI0, mj_nIc, mj_nIadd, mj_nIs, mj_ez, mj_ze, mj_eo, mj_ltz, mj_lez, mj_zlt, mj_olt, mj_lto, mj_leo, mj_ole, mj_nIn, mj_nnI, nl_2, nl_3, nl_4, nl_5, nl_6, nl_7, nl_8, nl_9, nl_10, nl_11, nl_12, nl_13, nl_14, nl_15, nl_16, nl_17, nl_18, nl_19, nl_20, nl_21, nl_22, nl_23, nl_24, nl_25, nl_26, nl_27, nl_28, nl_29, nl_30, nl_32, nl_33, nl_34, nl_35, nl_36, nl_37, nl_38, nl_39, nl_40, nl_41, nl_42, nl_43, nl_44, nl_45, nl_46, nl_47, nl_48, nl_49, nl_50, nl_51, nl_52, nl_53, nl_54, nl_55, nl_56, nl_57, nl_58, nl_59, nl_60, nl_61, nl_62, nl_64, nl_65, nl_66, nl_67, nl_68, nl_69, nl_92, nl_97, nl_99, nl_100, nl_122, nl_127, nl_128, nl_131, nl_132, nl_150, nl_200, nl_255, nl_256, nl_300, nl_342, nl_380, nl_381, nl_400, nl_401, nl_420, nl_500, nl_600, nl_800, nl_999, nl_1000, nl_1023, nl_1024, nl_1200, nl_2048, nl_2100, nl_4096, nl_9999, nl_10000, nl_10240, nl_999999, nl_1000000, if_pos, if_neg, nl', s_hM, hb, g244_33, g244_54]
          · by_cases hsl' : s' = s ∧ l' = l
            · obtain ⟨rfl, rfl⟩ := hsl'; exact absurd h4 hb
            · exact c2 s' l' (by omega) h2 h3 h4
    · have hdf : ¬ mj_df s T = 0 := fun h => hsub (mj_df_0.mp h)
      have hdl : mj_df s T < 1024 := mj_df_le (n := 10) _ _ (by omega)
      have hne : ¬ nI (mj_df s T) = (0 : Int32) := by rw [mj_ez (by omega)]; exact hdf
      refine ⟨(u3, g3), ?_, fun s' l' h1 h2 h3 h4 => ?_, a3⟩
      · show mj_den mj_P E (d + 4) 244 2 [.ref 205, .int (nI T), .int (nI (T - j)), u3] [] (mj_hw w c g3 hl) = mj_den mj_P E (d + 4) 244 2 [.ref 205, .int (nI T), .int (nI (T - (j + 1))), u3] [] (mj_hw w c g3 hl)
        rw [← hs, hs3, g244_2, if_neg nle, bx_df, if_neg hne, g244_60, ev2]
      · show g3 229 (10 * s' + l') = _
        by_cases hss : s' = s
        · rw [hss] at h2; exact absurd h2 hsub
        · exact a2 s' l' (by omega) h2 h3 h4
end MJ89x5
