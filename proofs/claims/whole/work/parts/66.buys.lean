/-! buys -/
/-! the two rows pf_* are pasted from kit/laws -/
theorem pf_lI {a : Nat} (h : a < 2 ^ 63) : (lN a).toInt = (a : Int) := lg_ofNat_toInt h
theorem pf_shr {a d : Nat} {D : Int64} (hD : (D.toBitVec.smod 64).toNat = d) (h : a < 2 ^ 62) : lN a >>> D = lN (a / 2 ^ d) := by
  have hd : a / 2 ^ d ≤ a := Nat.div_le_self _ _
  apply Int64.toInt_inj.mp
  have e : (lN a >>> D).toInt = (lN a).toInt >>> d := by
    rw [← hD]
    exact BitVec.toInt_sshiftRight ..
  rw [e, Int.shiftRight_eq_div_pow, pf_lI (by omega), pf_lI (by omega)]
  rfl
theorem wy_lin {a b c d e f K Z : Nat} (h1 : a + c = e) (h2 : b + d = f) (h3 : e * Z + f = K) : a * Z + b + c * Z + d = K := by
  rw [← h3, ← h1, ← h2, Nat.add_mul]; omega
theorem wy_low {y : Nat → Nat} {s : Nat} (hs : s < 4096) (h0 : s ≠ 0) : ∀ m, m ≤ 12 → wp_cs y (s &&& (s - 1)) m + (if mj_tz s < m then y (mj_tz s) else 0) = wp_cs y s m := by
  intro m
  induction m with
  | zero => intro _; rfl
  | succ m ih =>
    intro hm
    have hl := wc_low s hs h0 m (by omega)
    have hz := (wc_tz s hs h0).1
    rw [wp_cs_s, wp_cs_s, ← ih (by omega), hl]
    by_cases hmt : m = mj_tz s
    · rw [hmt, hz, if_pos (show mj_tz s < mj_tz s + 1 by omega), if_neg (show ¬ mj_tz s < mj_tz s by omega), if_pos rfl, decide_eq_false (fun z => z rfl), Bool.and_false, if_neg (by decide)]
    · rw [decide_eq_true hmt, Bool.and_true]
      by_cases h1 : mj_tz s < m
      · rw [if_pos h1, if_pos (show mj_tz s < m + 1 by omega)]; omega
      · rw [if_neg h1, if_neg (show ¬ mj_tz s < m + 1 by omega)]; omega
theorem wy_cs_bd {y : Nat → Nat} {s b : Nat} : ∀ m, (∀ i, i < m → y i ≤ b) → wp_cs y s m ≤ m * b := by
  intro m
  induction m with
  | zero => intro _; exact Nat.zero_le _
  | succ m ih =>
    intro h
    have h1 := ih (fun i hi => h i (by omega))
    have h2 := h m (by omega)
    rw [wp_cs_s, Nat.succ_mul]; split <;> omega
def wy_B (wo : Nat → Nat) (l W b : Nat) : Nat → Nat
  | 0 => 0
  | s + 1 => if mj_df (s + 1) W = 0 ∧ wp_cs (fun k => wo k / 2) (s + 1) l ≤ b ∧ wp_cs wo (wy_B wo l W b s) l < wp_cs wo (s + 1) l then s + 1 else wy_B wo l W b s
theorem wy_B_s (wo : Nat → Nat) (l W b s : Nat) : wy_B wo l W b (s + 1) = if mj_df (s + 1) W = 0 ∧ wp_cs (fun k => wo k / 2) (s + 1) l ≤ b ∧ wp_cs wo (wy_B wo l W b s) l < wp_cs wo (s + 1) l then s + 1 else wy_B wo l W b s := rfl
theorem wy_B_le (wo : Nat → Nat) (l W b : Nat) : ∀ s, wy_B wo l W b s ≤ s := by
  intro s
  induction s with
  | zero => exact Nat.le_refl _
  | succ s ih => rw [wy_B_s]; split <;> omega
theorem wy_cs0 (y : Nat → Nat) (m : Nat) : wp_cs y 0 m = 0 := by
  induction m with
  | zero => rfl
  | succ m ih => rw [wp_cs_s, ih, Nat.zero_testBit, if_neg (by decide)]
section MJ66
variable {E : mj_E} {d w c : Nat} {hi : mj_HI} {hl : Nat → Nat → Int64}
theorem s_worX {wo : Nat → Nat} {l s : Nat} (hl12 : l ≤ 12) (hs : s < 4096) (h1 : hi 2 1 = nI l) (hw : ∀ j, j < l → hi 11 j = nI (wo j)) : mj_dc mj_P E (d + 2) 80 [.ref 2, .int (nI s)] (mj_hw w c hi hl) = some (some (.int (nI (wp_cs wo s l))), mj_hw w c hi hl) := by
  rw [e80, q80_0]
  refine (lp_up (fun j => mj_den mj_P E (d + 1) 80 4 [.ref 2, .int (nI s), .int (nI (wp_cs wo s j)), .int (nI j)] [] (mj_hw w c hi hl)) l (fun j hj => ?_)).trans ?_
  · show mj_den mj_P E (d + 1) 80 4 [.ref 2, .int (nI s), .int (nI (wp_cs wo s j)), .int (nI j)] [] (mj_hw w c hi hl) = mj_den mj_P E (d + 1) 80 4 [.ref 2, .int (nI s), .int (nI (wp_cs wo s (j + 1))), .int (nI (j + 1))] [] (mj_hw w c hi hl)
    have hwj := hw j hj
    rw [q80_4, h1, wp_cs_s]
    by_cases hb : s.testBit j = true
    · simp (disch := omega) only [↓reduceIte, Bool.false_eq_true, eq_self, mj_10, mj_01, mj_n10, mj_0n1, mj_1n1, mj_n11, mj_bi_some, mj_bv_some, mj_bj_some, mj_br_some, mj_r0, mj_r1, mj_q0, mj_q1, mj_b01, mj_q2, if_true, if_false, mj_it, mj_if, true_and, and_true, false_and, and_false, not_true_eq_false, not_false_eq_true, true_or, or_true, false_or, or_false, mj_nIle, mj_nIlt, mj_nIeq, mj_nI0, mj_nIc, mj_nIadd, mj_nIs, mj_ez, mj_ze, mj_eo, mj_ltz, mj_lez, mj_zlt, mj_olt, mj_lto, mj_leo, mj_ole, mj_nIn, mj_nnI, nl_2, nl_3, nl_4, nl_5, nl_6, nl_7, nl_8, nl_9, nl_10, nl_11, nl_12, nl_13, nl_14, nl_15, nl_16, nl_17, nl_18, nl_19, nl_20, nl_21, nl_22, nl_23, nl_24, nl_25, nl_26, nl_27, nl_28, nl_29, nl_30, nl_32, nl_33, nl_34, nl_35, nl_36, nl_37, nl_38, nl_39, nl_40, nl_41, nl_42, nl_43, nl_44, nl_45, nl_46, nl_47, nl_48, nl_49, nl_50, nl_51, nl_52, nl_53, nl_54, nl_55, nl_56, nl_57, nl_58, nl_59, nl_60, nl_61, nl_62, nl_64, nl_65, nl_66, nl_67, nl_68, nl_69, nl_92, nl_97, nl_99, nl_100, nl_122, nl_127, nl_128, nl_131, nl_132, nl_150, nl_200, nl_255, nl_256, nl_300, nl_342, nl_380, nl_381, nl_400, nl_401, nl_420, nl_500, nl_600, nl_800, nl_999, nl_1000, nl_1023, nl_1024, nl_1200, nl_2048, nl_2100, nl_4096, nl_9999, nl_10000, nl_10240, nl_999999, nl_1000000, if_pos, if_neg, s_hX, hb, q80_23, q80_35, hwj]
    · simp (disch := omega) only [↓reduceIte, Bool.false_eq_true, eq_self, mj_10, mj_01, mj_n10, mj_0n1, mj_1n1, mj_n11, mj_bi_some, mj_bv_some, mj_bj_some, mj_br_some, mj_r0, mj_r1, mj_q0, mj_q1, mj_b01, mj_q2, if_true, if_false, mj_it, mj_if, true_and, and_true, false_and, and_false, not_true_eq_false, not_false_eq_true, true_or, or_true, false_or, or_false, mj_nIle, mj_nIlt, mj_nIeq, mj_nI0, mj_nIc, mj_nIadd, mj_nIs, mj_ez, mj_ze, mj_eo, mj_ltz, mj_lez, mj_zlt, mj_olt, mj_lto, mj_leo, mj_ole, mj_nIn, mj_nnI, nl_2, nl_3, nl_4, nl_5, nl_6, nl_7, nl_8, nl_9, nl_10, nl_11, nl_12, nl_13, nl_14, nl_15, nl_16, nl_17, nl_18, nl_19, nl_20, nl_21, nl_22, nl_23, nl_24, nl_25, nl_26, nl_27, nl_28, nl_29, nl_30, nl_32, nl_33, nl_34, nl_35, nl_36, nl_37, nl_38, nl_39, nl_40, nl_41, nl_42, nl_43, nl_44, nl_45, nl_46, nl_47, nl_48, nl_49, nl_50, nl_51, nl_52, nl_53, nl_54, nl_55, nl_56, nl_57, nl_58, nl_59, nl_60, nl_61, nl_62, nl_64, nl_65, nl_66, nl_67, nl_68, nl_69, nl_92, nl_97, nl_99, nl_100, nl_122, nl_127, nl_128, nl_131, nl_132, nl_150, nl_200, nl_255, nl_256, nl_300, nl_342, nl_380, nl_381, nl_400, nl_401, nl_420, nl_500, nl_600, nl_800, nl_999, nl_1000, nl_1023, nl_1024, nl_1200, nl_2048, nl_2100, nl_4096, nl_9999, nl_10000, nl_10240, nl_999999, nl_1000000, if_pos, if_neg, s_hX, hb, q80_23, q80_35, Nat.add_zero]
  · show mj_den mj_P E (d + 1) 80 4 _ _ _ = _
    rw [q80_4, h1, if_pos (Int32.le_refl _), q80_41]
theorem s_worM {wo : Nat → Nat} {l s b : Nat} (hl12 : l ≤ 12) (hs : s < 4096) (hb0 : b = 1 ∨ b = 2) (h1 : hi 205 7 = nI l) (hw : ∀ j, j < l → hi 212 j = nI (wo j) ∧ wo j ≤ 999) : mj_dc mj_P E (d + 2) 253 [.ref 205, .int (nI s), .int (nI b)] (mj_hw w c hi hl) = some (some (.int (nI (wp_cs (fun k => wo k / b) s l))), mj_hw w c hi hl) := by
  rw [e253, q253_0]
  refine (lp_up (fun j => mj_den mj_P E (d + 1) 253 5 [.ref 205, .int (nI s), .int (nI b), .int (nI (wp_cs (fun k => wo k / b) s j)), .int (nI j)] [] (mj_hw w c hi hl)) l (fun j hj => ?_)).trans ?_
  · show mj_den mj_P E (d + 1) 253 5 [.ref 205, .int (nI s), .int (nI b), .int (nI (wp_cs (fun k => wo k / b) s j)), .int (nI j)] [] (mj_hw w c hi hl) = mj_den mj_P E (d + 1) 253 5 [.ref 205, .int (nI s), .int (nI b), .int (nI (wp_cs (fun k => wo k / b) s (j + 1))), .int (nI (j + 1))] [] (mj_hw w c hi hl)
    obtain ⟨w1, w2⟩ := hw j hj
    have hdv : nI (wo j) / nI b = nI (wo j / b) := mj_nIdiv (by omega) (by omega)
    have hne : ¬ nI b = 0 := by rw [mj_ez (by omega)]; omega
    rw [q253_5, h1, wp_cs_s]
    by_cases hb : s.testBit j = true
    · simp (disch := omega) only [↓reduceIte, Bool.false_eq_true, eq_self, mj_10, mj_01, mj_n10, mj_0n1, mj_1n1, mj_n11, mj_bi_some, mj_bv_some, mj_bj_some, mj_br_some, mj_r0, mj_r1, mj_q0, mj_q1, mj_b01, mj_q2, if_true, if_false, mj_it, mj_if, true_and, and_true, false_and, and_false, not_true_eq_false, not_false_eq_true, true_or, or_true, false_or, or_false, mj_nIle, mj_nIlt, mj_nIeq, mj_nI0, mj_nIc, mj_nIadd, mj_nIs, mj_ez, mj_ze, mj_eo, mj_ltz, mj_lez, mj_zlt, mj_olt, mj_lto, mj_leo, mj_ole, mj_nIn, mj_nnI, nl_2, nl_3, nl_4, nl_5, nl_6, nl_7, nl_8, nl_9, nl_10, nl_11, nl_12, nl_13, nl_14, nl_15, nl_16, nl_17, nl_18, nl_19, nl_20, nl_21, nl_22, nl_23, nl_24, nl_25, nl_26, nl_27, nl_28, nl_29, nl_30, nl_32, nl_33, nl_34, nl_35, nl_36, nl_37, nl_38, nl_39, nl_40, nl_41, nl_42, nl_43, nl_44, nl_45, nl_46, nl_47, nl_48, nl_49, nl_50, nl_51, nl_52, nl_53, nl_54, nl_55, nl_56, nl_57, nl_58, nl_59, nl_60, nl_61, nl_62, nl_64, nl_65, nl_66, nl_67, nl_68, nl_69, nl_92, nl_97, nl_99, nl_100, nl_122, nl_127, nl_128, nl_131, nl_132, nl_150, nl_200, nl_255, nl_256, nl_300, nl_342, nl_380, nl_381, nl_400, nl_401, nl_420, nl_500, nl_600, nl_800, nl_999, nl_1000, nl_1023, nl_1024, nl_1200, nl_2048, nl_2100, nl_4096, nl_9999, nl_10000, nl_10240, nl_999999, nl_1000000, if_pos, if_neg, s_hM, hb, q253_21, q253_36, w1, hdv, hne]
    · simp (disch := omega) only [↓reduceIte, Bool.false_eq_true, eq_self, mj_10, mj_01, mj_n10, mj_0n1, mj_1n1, mj_n11, mj_bi_some, mj_bv_some, mj_bj_some, mj_br_some, mj_r0, mj_r1, mj_q0, mj_q1, mj_b01, mj_q2, if_true, if_false, mj_it, mj_if, true_and, and_true, false_and, and_false, not_true_eq_false, not_false_eq_true, true_or, or_true, false_or, or_false, mj_nIle, mj_nIlt, mj_nIeq, mj_nI0, mj_nIc, mj_nIadd, mj_nIs, mj_ez, mj_ze, mj_eo, mj_ltz, mj_lez, mj_zlt, mj_olt, mj_lto, mj_leo, mj_ole, mj_nIn, mj_nnI, nl_2, nl_3, nl_4, nl_5, nl_6, nl_7, nl_8, nl_9, nl_10, nl_11, nl_12, nl_13, nl_14, nl_15, nl_16, nl_17, nl_18, nl_19, nl_20, nl_21, nl_22, nl_23, nl_24, nl_25, nl_26, nl_27, nl_28, nl_29, nl_30, nl_32, nl_33, nl_34, nl_35, nl_36, nl_37, nl_38, nl_39, nl_40, nl_41, nl_42, nl_43, nl_44, nl_45, nl_46, nl_47, nl_48, nl_49, nl_50, nl_51, nl_52, nl_53, nl_54, nl_55, nl_56, nl_57, nl_58, nl_59, nl_60, nl_61, nl_62, nl_64, nl_65, nl_66, nl_67, nl_68, nl_69, nl_92, nl_97, nl_99, nl_100, nl_122, nl_127, nl_128, nl_131, nl_132, nl_150, nl_200, nl_255, nl_256, nl_300, nl_342, nl_380, nl_381, nl_400, nl_401, nl_420, nl_500, nl_600, nl_800, nl_999, nl_1000, nl_1023, nl_1024, nl_1200, nl_2048, nl_2100, nl_4096, nl_9999, nl_10000, nl_10240, nl_999999, nl_1000000, if_pos, if_neg, s_hM, hb, q253_21, q253_36, Nat.add_zero]
  · show mj_den mj_P E (d + 1) 253 5 _ _ _ = _
    rw [q253_5, h1, if_pos (Int32.le_refl _), q253_42]
theorem s_bought {wo : Nat → Nat} {l W b S : Nat} (hl12 : l ≤ 12) (hb : b ≤ 9999) (hW : W < 4096) (hW2 : W < 2 ^ l) (hS : mj_nth (mj_CL c) S = (101, 4096)) (h1 : ∀ j, j < l → hi 11 j = nI (wo j) ∧ wo j ≤ 999) (h0 : hl S 0 = lN 0) : ∃ hl', mj_den mj_P E (d + 1) 94 24 [.ref 189, .ref 2, .int (nI b), .ref S, .int (nI W), .int 0, .long (lN 0), .float 0, .int 1, .float 0, .float 0, .float 0] [] (mj_hw w c hi hl) = some (some (.int (nI (wy_B wo l W b W))), mj_hw w c hi hl') := by
  have hV : ∀ s, wp_cs wo s l ≤ 11988 := fun s => by
    have := wy_cs_bd (y := wo) (s := s) (b := 999) l (fun i hi => (h1 i hi).2)
    have h2 : l * 999 ≤ 12 * 999 := Nat.mul_le_mul_right _ hl12
    omega
  have hC : ∀ s, wp_cs (fun k => wo k / 2) s l ≤ 11988 := fun s => by
    have := wy_cs_bd (y := fun k => wo k / 2) (s := s) (b := 999) l (fun i hi => by have := (h1 i hi).2; show wo i / 2 ≤ 999; omega)
    have h2 : l * 999 ≤ 12 * 999 := Nat.mul_le_mul_right _ hl12
    omega
  have key := lp_ex (fun s (q : Value × Value × (Nat → Nat → Int64)) => mj_den mj_P E (d + 1) 94 24 [.ref 189, .ref 2, .int (nI b), .ref S, .int (nI W), .int (nI (wy_B wo l W b s)), .long (lN (wp_cs wo (wy_B wo l W b s) l)), .float 0, .int (nI (s + 1)), q.1, q.2.1, .float 0] [] (mj_hw w c hi q.2.2)) (fun s q => ∀ t, t < s + 1 → mj_df t W = 0 → q.2.2 S t = lN (wp_cs (fun k => wo k / 2) t l * 4294967296 + wp_cs wo t l)) W (fun s q hs hI => ?_) (.float 0, .float 0, hl) (fun t ht _ => by rw [show t = 0 by omega, wy_cs0, wy_cs0]; exact h0)
  · obtain ⟨⟨u9, u10, hl'⟩, e, _⟩ := key
    refine ⟨hl', ?_⟩
    have e00 : wp_cs wo (wy_B wo l W b 0) l = 0 := wy_cs0 wo l
    rw [e00] at e
    refine Eq.trans e ?_
    show mj_den mj_P E (d + 1) 94 24 [.ref 189, .ref 2, .int (nI b), .ref S, .int (nI W), .int (nI (wy_B wo l W b W)), .long (lN (wp_cs wo (wy_B wo l W b W) l)), .float 0, .int (nI (W + 1)), u9, u10, .float 0] [] (mj_hw w c hi hl') = _
    rw [g94_24 hS, if_pos (by rw [mj_nIlt (by omega) (by omega)]; omega), g94_146 hS]
  · obtain ⟨u9, u10, g⟩ := q
    simp only at hI
    have e4096 : Int32.ofNat 4096 = nI 4096 := rfl
    have hs4 : s + 1 < 4096 := by omega
    have ez : mj_dc mj_P E (d + 1) 292 [.int (nI (s + 1))] (mj_hw w c hi g) = some (some (.int (nI (mj_tz (s + 1)))), mj_hw w c hi g) := s_tz (s := s + 1) hs4
    obtain ⟨z1, z2⟩ := wc_tz (s + 1) hs4 (by omega)
    have hdl := mj_df_le (s + 1) W (n := 12) hs4
    have hsub : (nI (s + 1) &&& (nI W ^^^ -1) = 0) = (mj_df (s + 1) W = 0) := by rw [bx_df, mj_ez (by omega)]
    show ∃ q' : Value × Value × (Nat → Nat → Int64), mj_den mj_P E (d + 1) 94 24 [.ref 189, .ref 2, .int (nI b), .ref S, .int (nI W), .int (nI (wy_B wo l W b s)), .long (lN (wp_cs wo (wy_B wo l W b s) l)), .float 0, .int (nI (s + 1)), u9, u10, .float 0] [] (mj_hw w c hi g) = mj_den mj_P E (d + 1) 94 24 [.ref 189, .ref 2, .int (nI b), .ref S, .int (nI W), .int (nI (wy_B wo l W b (s + 1))), .long (lN (wp_cs wo (wy_B wo l W b (s + 1)) l)), .float 0, .int (nI (s + 1 + 1)), q'.1, q'.2.1, .float 0] [] (mj_hw w c hi q'.2.2) ∧ _
    rw [wy_B_s]
    by_cases h2 : mj_df (s + 1) W = 0
    · -- below l
      have hsl : s + 1 < 2 ^ l := by
        have := wk_sub_le (mj_df0.mp h2)
        omega
      have htl := wc_tzm hl12 hsl (by omega)
      obtain ⟨w1, w2⟩ := h1 (mj_tz (s + 1)) htl
      have hlow : (s + 1) &&& (s + 1 - 1) < s + 1 := (mj_pc_dec (s + 1) hs4 (by omega)).2
      have hlow2 : mj_df ((s + 1) &&& (s + 1 - 1)) W = 0 := by
        rw [mj_df0]; intro j hj
        rw [Nat.testBit_and, Bool.and_eq_true] at hj
        exact mj_df0.mp h2 j hj.1
      have gl := hI ((s + 1) &&& (s + 1 - 1)) hlow hlow2
      have v1 := wy_low (y := wo) hs4 (by omega) l hl12
      have v2 := wy_low (y := fun k => wo k / 2) hs4 (by omega) l hl12
      rw [if_pos htl] at v1 v2
      have hV1 := hV (s + 1)
      have hC1 := hC (s + 1)
      have hV0 := hV (wy_B wo l W b s)
      have e1 : nI (s + 1) &&& (nI (s + 1) - 1) = nI ((s + 1) &&& (s + 1 - 1)) := by rw [mj_nIp (by omega), bx_and]
      generalize hK : wp_cs (fun k => wo k / 2) (s + 1) l * 4294967296 + wp_cs wo (s + 1) l = K
      have hadd : lN (wp_cs (fun k => wo k / 2) ((s + 1) &&& (s + 1 - 1)) l * 4294967296 + wp_cs wo ((s + 1) &&& (s + 1 - 1)) l) + ((nI (wo (mj_tz (s + 1))) / nI 2).toInt64 <<< ((nI 32).toInt64 &&& 63)) + (nI (wo (mj_tz (s + 1)))).toInt64 = lN K := by
        rw [mj_nIdiv (by omega) (by omega), nI_l (n := wo (mj_tz (s + 1)) / 2) (by omega), wb_shl _ (k := 32) (by omega), nI_l (n := wo (mj_tz (s + 1))) (by omega), lN_add, lN_add]
        rw [show (2 : Nat) ^ 32 = 4294967296 from rfl]
        exact congrArg lN (wy_lin v2 v1 hK)
      have hshr : lN K >>> ((nI 32).toInt64 &&& 63) = lN (wp_cs (fun k => wo k / 2) (s + 1) l) := by
        rw [pf_shr (d := 32) (by decide +kernel) (by omega), show (2 : Nat) ^ 32 = 4294967296 from rfl]
        exact congrArg lN (by omega)
      have hand : lN K &&& lN 4294967295 = lN (wp_cs wo (s + 1) l) := by
        rw [wb_and (by omega) (by omega)]
        have := Nat.and_two_pow_sub_one_eq_mod K 32
        rw [show 2 ^ 32 - 1 = 4294967295 from rfl, show (2 : Nat) ^ 32 = 4294967296 from rfl] at this
        rw [this]; exact congrArg lN (by omega)
      have hself : ∀ (h : Nat → Nat → Int64) (k : Nat) (v : Int64), mj_u h S k v S k = v := fun h k v => if_pos ⟨rfl, rfl⟩
      have hcmp1 : (0 < lg_cmp (lN (wp_cs (fun k => wo k / 2) (s + 1) l)) (lN b)) = (b < wp_cs (fun k => wo k / 2) (s + 1) l) := by
        apply propext; rw [lg_cmp_gt, pk_lLT (by omega) (by omega)]
      have hcmp2 : (lg_cmp (lN (wp_cs wo (s + 1) l)) (lN (wp_cs wo (wy_B wo l W b s) l)) ≤ 0) = (wp_cs wo (s + 1) l ≤ wp_cs wo (wy_B wo l W b s) l) := by
        apply propext; rw [lg_cmp_le, pk_lLE (by omega) (by omega)]
      have hbl : (nI b).toInt64 = lN b := nI_l (by omega)
      refine ⟨(.int (nI (mj_tz (s + 1))), .long (lN (wp_cs wo (s + 1) l)), mj_u g S (s + 1) (lN K)), ?_, fun t ht htd => ?_⟩
      · by_cases h3 : wp_cs (fun k => wo k / 2) (s + 1) l ≤ b
        · by_cases h4 : wp_cs wo (wy_B wo l W b s) l < wp_cs wo (s + 1) l
          · rw [if_pos ⟨h2, h3, h4⟩, g94_24 hS, e4096]
            simp (disch := omega) only [↓reduceIte, Bool.false_eq_true, eq_self, mj_10, mj_01, mj_n10, mj_0n1, mj_1n1, mj_n11, mj_bi_some, mj_bv_some, mj_bj_some, mj_br_some, mj_r0, mj_r1, mj_q0, mj_q1, mj_b01, mj_q2, if_true, if_false, mj_it, mj_if, true_and, and_true, false_and, and_false, not_true_eq_false, not_false_eq_true, true_or, or_true, false_or, or_false, mj_nIle, mj_nIlt, mj_nIeq, mj_nI0, mj_nIc, mj_nIadd, mj_nIs, mj_ez, mj_ze, mj_eo, mj_ltz, mj_lez, mj_zlt, mj_olt, mj_lto, mj_leo, mj_ole, mj_nIn, mj_nnI, nl_2, nl_3, nl_4, nl_5, nl_6, nl_7, nl_8, nl_9, nl_10, nl_11, nl_12, nl_13, nl_14, nl_15, nl_16, nl_17, nl_18, nl_19, nl_20, nl_21, nl_22, nl_23, nl_24, nl_25, nl_26, nl_27, nl_28, nl_29, nl_30, nl_32, nl_33, nl_34, nl_35, nl_36, nl_37, nl_38, nl_39, nl_40, nl_41, nl_42, nl_43, nl_44, nl_45, nl_46, nl_47, nl_48, nl_49, nl_50, nl_51, nl_52, nl_53, nl_54, nl_55, nl_56, nl_57, nl_58, nl_59, nl_60, nl_61, nl_62, nl_64, nl_65, nl_66, nl_67, nl_68, nl_69, nl_92, nl_97, nl_99, nl_100, nl_122, nl_127, nl_128, nl_131, nl_132, nl_150, nl_200, nl_255, nl_256, nl_300, nl_342, nl_380, nl_381, nl_400, nl_401, nl_420, nl_500, nl_600, nl_800, nl_999, nl_1000, nl_1023, nl_1024, nl_1200, nl_2048, nl_2100, nl_4096, nl_9999, nl_10000, nl_10240, nl_999999, nl_1000000, if_pos, if_neg, ez, g94_43 hS, hsub, h2, g94_65 hS, e1, gl, w1, hadd, hself, hshr, hand, wl_of, hbl, hcmp1, hcmp2, g94_140 hS]
          · rw [if_neg (fun z => h4 z.2.2), g94_24 hS, e4096]
            simp (disch := omega) only [↓reduceIte, Bool.false_eq_true, eq_self, mj_10, mj_01, mj_n10, mj_0n1, mj_1n1, mj_n11, mj_bi_some, mj_bv_some, mj_bj_some, mj_br_some, mj_r0, mj_r1, mj_q0, mj_q1, mj_b01, mj_q2, if_true, if_false, mj_it, mj_if, true_and, and_true, false_and, and_false, not_true_eq_false, not_false_eq_true, true_or, or_true, false_or, or_false, mj_nIle, mj_nIlt, mj_nIeq, mj_nI0, mj_nIc, mj_nIadd, mj_nIs, mj_ez, mj_ze, mj_eo, mj_ltz, mj_lez, mj_zlt, mj_olt, mj_lto, mj_leo, mj_ole, mj_nIn, mj_nnI, nl_2, nl_3, nl_4, nl_5, nl_6, nl_7, nl_8, nl_9, nl_10, nl_11, nl_12, nl_13, nl_14, nl_15, nl_16, nl_17, nl_18, nl_19, nl_20, nl_21, nl_22, nl_23, nl_24, nl_25, nl_26, nl_27, nl_28, nl_29, nl_30, nl_32, nl_33, nl_34, nl_35, nl_36, nl_37, nl_38, nl_39, nl_40, nl_41, nl_42, nl_43, nl_44, nl_45, nl_46, nl_47, nl_48, nl_49, nl_50, nl_51, nl_52, nl_53, nl_54, nl_55, nl_56, nl_57, nl_58, nl_59, nl_60, nl_61, nl_62, nl_64, nl_65, nl_66, nl_67, nl_68, nl_69, nl_92, nl_97, nl_99, nl_100, nl_122, nl_127, nl_128, nl_131, nl_132, nl_150, nl_200, nl_255, nl_256, nl_300, nl_342, nl_380, nl_381, nl_400, nl_401, nl_420, nl_500, nl_600, nl_800, nl_999, nl_1000, nl_1023, nl_1024, nl_1200, nl_2048, nl_2100, nl_4096, nl_9999, nl_10000, nl_10240, nl_999999, nl_1000000, if_pos, if_neg, ez, g94_43 hS, hsub, h2, g94_65 hS, e1, gl, w1, hadd, hself, hshr, hand, wl_of, hbl, hcmp1, hcmp2, g94_140 hS]
        · rw [if_neg (fun z => h3 z.2.1), g94_24 hS, e4096]
          simp (disch := omega) only [↓reduceIte, Bool.false_eq_true, eq_self, mj_10, mj_01, mj_n10, mj_0n1, mj_1n1, mj_n11, mj_bi_some, mj_bv_some, mj_bj_some, mj_br_some, mj_r0, mj_r1, mj_q0, mj_q1, mj_b01, mj_q2, if_true, if_false, mj_it, mj_if, true_and, and_true, false_and, and_false, not_true_eq_false, not_false_eq_true, true_or, or_true, false_or, or_false, mj_nIle, mj_nIlt, mj_nIeq, mj_nI0, mj_nIc, mj_nIadd, mj_nIs, mj_ez, mj_ze, mj_eo, mj_ltz, mj_lez, mj_zlt, mj_olt, mj_lto, mj_leo, mj_ole, mj_nIn, mj_nnI, nl_2, nl_3, nl_4, nl_5, nl_6, nl_7, nl_8, nl_9, nl_10, nl_11, nl_12, nl_13, nl_14, nl_15, nl_16, nl_17, nl_18, nl_19, nl_20, nl_21, nl_22, nl_23, nl_24, nl_25, nl_26, nl_27, nl_28, nl_29, nl_30, nl_32, nl_33, nl_34, nl_35, nl_36, nl_37, nl_38, nl_39, nl_40, nl_41, nl_42, nl_43, nl_44, nl_45, nl_46, nl_47, nl_48, nl_49, nl_50, nl_51, nl_52, nl_53, nl_54, nl_55, nl_56, nl_57, nl_58, nl_59, nl_60, nl_61, nl_62, nl_64, nl_65, nl_66, nl_67, nl_68, nl_69, nl_92, nl_97, nl_99, nl_100, nl_122, nl_127, nl_128, nl_131, nl_132, nl_150, nl_200, nl_255, nl_256, nl_300, nl_342, nl_380, nl_381, nl_400, nl_401, nl_420, nl_500, nl_600, nl_800, nl_999, nl_1000, nl_1023, nl_1024, nl_1200, nl_2048, nl_2100, nl_4096, nl_9999, nl_10000, nl_10240, nl_999999, nl_1000000, if_pos, if_neg, ez, g94_43 hS, hsub, h2, g94_65 hS, e1, gl, w1, hadd, hself, hshr, hand, wl_of, hbl, hcmp1, hcmp2, g94_140 hS]
      · show mj_u g S (s + 1) (lN K) S t = _
        unfold mj_u
        by_cases hts : t = s + 1
        · rw [if_pos ⟨rfl, hts⟩, hts, hK]
        · rw [if_neg (fun z => hts z.2)]; exact hI t (by omega) htd
    · refine ⟨(.int (nI (mj_tz (s + 1))), u10, g), ?_, fun t ht htd => ?_⟩
      · rw [if_neg (fun z => h2 z.1), g94_24 hS, e4096]
        simp (disch := omega) only [↓reduceIte, Bool.false_eq_true, eq_self, mj_10, mj_01, mj_n10, mj_0n1, mj_1n1, mj_n11, mj_bi_some, mj_bv_some, mj_bj_some, mj_br_some, mj_r0, mj_r1, mj_q0, mj_q1, mj_b01, mj_q2, if_true, if_false, mj_it, mj_if, true_and, and_true, false_and, and_false, not_true_eq_false, not_false_eq_true, true_or, or_true, false_or, or_false, mj_nIle, mj_nIlt, mj_nIeq, mj_nI0, mj_nIc, mj_nIadd, mj_nIs, mj_ez, mj_ze, mj_eo, mj_ltz, mj_lez, mj_zlt, mj_olt, mj_lto, mj_leo, mj_ole, mj_nIn, mj_nnI, nl_2, nl_3, nl_4, nl_5, nl_6, nl_7, nl_8, nl_9, nl_10, nl_11, nl_12, nl_13, nl_14, nl_15, nl_16, nl_17, nl_18, nl_19, nl_20, nl_21, nl_22, nl_23, nl_24, nl_25, nl_26, nl_27, nl_28, nl_29, nl_30, nl_32, nl_33, nl_34, nl_35, nl_36, nl_37, nl_38, nl_39, nl_40, nl_41, nl_42, nl_43, nl_44, nl_45, nl_46, nl_47, nl_48, nl_49, nl_50, nl_51, nl_52, nl_53, nl_54, nl_55, nl_56, nl_57, nl_58, nl_59, nl_60, nl_61, nl_62, nl_64, nl_65, nl_66, nl_67, nl_68, nl_69, nl_92, nl_97, nl_99, nl_100, nl_122, nl_127, nl_128, nl_131, nl_132, nl_150, nl_200, nl_255, nl_256, nl_300, nl_342, nl_380, nl_381, nl_400, nl_401, nl_420, nl_500, nl_600, nl_800, nl_999, nl_1000, nl_1023, nl_1024, nl_1200, nl_2048, nl_2100, nl_4096, nl_9999, nl_10000, nl_10240, nl_999999, nl_1000000, if_pos, if_neg, ez, g94_43 hS, hsub, h2, g94_140 hS]
      · by_cases hts : t = s + 1
        · subst hts; exact absurd htd h2
        · exact hI t (by omega) htd
end MJ66
theorem cs_buys (a b : Int32) : mj_Cs 130 254 [.int a, .int b] := by
  intro E d w c hi hl hE hw hI
  obtain ⟨n, l, q⟩ := iv_I_un.mp hI
  obtain ⟨n10, l12, mN, mL⟩ := iv_Jn q
  obtain ⟨⟨a0, a1, a2, a3, a4, a5, a6⟩, _⟩ := iv_JX q
  obtain ⟨pu, wo, hpu, hwo⟩ := iv_rich q
  by_cases ha : (1 : Int32) ≤ a ∧ a ≤ nI 9999
  · have ha0 : (0 : Int32) ≤ a := Int32.le_trans (by decide) ha.1
    obtain ⟨A, hA, rfl⟩ := mj_ofn ha0
    have hA2 : A ≤ 9999 := by have := ha.2; rw [mj_nIle hA (by omega)] at this; exact this
    have hA1 : 1 ≤ A := by have := ha.1; rw [mj_ole hA] at this; exact this
    by_cases hb : 0 ≤ b ∧ b ≤ 1
    · obtain ⟨W, hW⟩ : ∃ W, mj_st (fun k => decide (hi 12 k = -1)) l = W := ⟨_, rfl⟩
      have hW1 : W < 4096 := by rw [← hW]; exact mj_st10 _ l12
      have hW2 : W < 2 ^ l := by rw [← hW]; exact mj_st_lt _ _
      obtain ⟨S, c', f, hl1, eS, c4, hS2, hS, f1, f2⟩ := s_sums (E := E) (d := d + 97) (w := w) (hi := hi) (hl := hl) hw.2.2
      have eU := s_uns (E := E) (d := d + 97) (w := w) (c := c') (hi := f) (hl := hl1) l12 (by rw [f1 _ _ (by omega)]; exact a1)
      have hWf : mj_st (fun k => decide (f 12 k = -1)) l = W := by rw [← hW]; exact mj_st_congr l (fun k hk => by rw [f1 _ _ (by omega)])
      rw [hWf] at eU
      obtain ⟨hl2, eB⟩ := s_bought (E := E) (d := d + 97) (w := w) (c := c') (hi := f) (hl := mj_u hl1 S 0 (lN 0)) (wo := wo) (b := A) l12 hA2 hW1 hW2 hS (fun j hj => ⟨by rw [f1 _ _ (by omega)]; exact (hwo j hj).2.1, (hwo j hj).1⟩) (if_pos ⟨rfl, rfl⟩)
      generalize hF : wy_B wo l W A W = F at eB
      have hFl : F ≤ W := by rw [← hF]; exact wy_B_le _ _ _ _ _
      have hX : mj_dc mj_P E (d + 99) 94 [.ref 189, .ref 2, .int (nI A)] (mj_hw w c hi hl) = some (some (.int (nI F)), mj_hw w c' f hl2) := by
        have eS2 : mj_dc mj_P E (d + 98) 85 [.ref 189] (mj_hw w c hi hl) = _ := eS
        have eU2 : mj_dc mj_P E (d + 98) 78 [.ref 2] (mj_hw w c' f hl1) = _ := eU
        rw [xg94 E (d + 98) S, mj_den_eq, f94_0]
        refine (zt_aload_n rfl rfl (zt_call0_3 (rest := []) rfl (mjkd189 _ _ _ _) (Nat.le_of_ble_eq_true rfl) rfl rfl)).trans ?_
        show mj_br (mj_dc mj_P E (d + 98) 85 [.ref 189] (mj_hw w c hi hl)) (fun x1 h1 => mj_den mj_P E (d + 98) 94 4 [.ref 189, .ref 2, .int (nI A), .float 0, .float 0, .float 0, .float 0, .float 0, .float 0, .float 0, .float 0, .float 0] [.ref x1] h1) = _
        rw [eS2, mj_br_some, g94_4 hS, eU2, mj_bi_some, g94_9 hS, if_pos (by decide), wl_of]
        exact eB
      have gI : iv_I (mj_u f 205 0 0) (mj_u f 205 0 0) := iv_J_same q (fun a k h => by rw [mj_u_pt (by omega), f1 _ _ (by omega)]) (fun a k h => by rw [mj_u_pt (by omega), f1 _ _ (by omega)]) (fun k h => by rw [mj_u_pt (by omega), f1 _ _ (by omega)])
      have mL' : (mj_u f 205 0 0) 205 7 = nI l := by rw [mj_u_pt (by omega), f1 _ _ (by omega)]; exact mL
      have hwM : ∀ j, j < l → (mj_u f 205 0 0) 212 j = nI (wo j) ∧ wo j ≤ 999 := fun j hj => ⟨by rw [mj_u_pt (by omega), f1 _ _ (by omega)]; exact (hwo j hj).2.2, (hwo j hj).1⟩
      have eW : ∀ s, s < 4096 → mj_dc mj_P E (d + 99) 253 [.ref 205, .int (nI s), .int 1] (mj_hw w c' (mj_u f 205 0 0) hl2) = some (some (.int (nI (wp_cs wo s l))), mj_hw w c' (mj_u f 205 0 0) hl2) := fun s hs => by
        have := s_worM (E := E) (d := d + 97) (w := w) (c := c') (hi := mj_u f 205 0 0) (hl := hl2) (wo := wo) (b := 1) l12 hs (Or.inl rfl) mL' hwM
        rw [show (fun k => wo k / 1) = wo from funext (fun k => Nat.div_one _)] at this
        exact this
      have eW2 : ∀ s, s < 4096 → mj_dc mj_P E (d + 99) 253 [.ref 205, .int (nI s), .int (nI 2)] (mj_hw w c' (mj_u f 205 0 0) hl2) = some (some (.int (nI (wp_cs (fun k => wo k / 2) s l))), mj_hw w c' (mj_u f 205 0 0) hl2) := fun s hs => s_worM (d := d + 97) (wo := wo) (b := 2) l12 hs (Or.inr rfl) mL' hwM
      have eUM := s_unsM (E := E) (d := d + 97) (w := w) (c := c') (hi := mj_u f 205 0 0) (hl := hl2) l12 mL'
      have hW3 : mj_st (fun k => decide ((mj_u f 205 0 0) 206 (45 + k) - 1 = -1)) l = W := by
        rw [← hW, iv_unsS q]
        exact mj_st_congr l (fun k hk => by rw [mj_u_pt (by omega), f1 _ _ (by omega)])
      rw [hW3] at eUM
      have hV : ∀ s, wp_cs wo s l ≤ 11988 := fun s => by
        have := wy_cs_bd (y := wo) (s := s) (b := 999) l (fun i hi => (hwo i hi).1)
        have h2 : l * 999 ≤ 12 * 999 := Nat.mul_le_mul_right _ l12
        omega
      have hC : ∀ s, wp_cs (fun k => wo k / 2) s l ≤ 11988 := fun s => by
        have := wy_cs_bd (y := fun k => wo k / 2) (s := s) (b := 999) l (fun i hi => by have := (hwo i hi).1; show wo i / 2 ≤ 999; omega)
        have h2 : l * 999 ≤ 12 * 999 := Nat.mul_le_mul_right _ l12
        omega
      have eM : mj_dc mj_P E (d + 100) 254 [.ref 205, .int (nI A), .int b] (mj_hw w c' f hl2) = mj_den mj_P E (d + 99) 254 93 [.ref 205, .int (nI A), .int b, .int (nI W), .int (nI F), .int (nI (W + 1))] [] (mj_hw w c' (mj_u f 205 0 0) hl2) := by
        have eUM2 : mj_dc mj_P E (d + 99) 252 [.ref 205] (mj_hw w c' (mj_u f 205 0 0) hl2) = _ := eUM
        simp (disch := omega) only [e254, q254_0, q254_14, q254_24, q254_29, q254_33, s_isIn, ↓reduceIte, Bool.false_eq_true, eq_self, mj_10, mj_01, mj_n10, mj_0n1, mj_1n1, mj_n11, mj_bi_some, mj_bv_some, mj_bj_some, mj_br_some, mj_r0, mj_r1, mj_q0, mj_q1, mj_b01, mj_q2, if_true, if_false, mj_it, mj_if, true_and, and_true, false_and, and_false, not_true_eq_false, not_false_eq_true, true_or, or_true, false_or, or_false, mj_nIle, mj_nIlt, mj_nIeq, mj_nI0, mj_nIc, mj_nIadd, mj_nIs, mj_ez, mj_ze, mj_eo, mj_ltz, mj_lez, mj_zlt, mj_olt, mj_lto, mj_leo, mj_ole, mj_nIn, mj_nnI, nl_2, nl_3, nl_4, nl_5, nl_6, nl_7, nl_8, nl_9, nl_10, nl_11, nl_12, nl_13, nl_14, nl_15, nl_16, nl_17, nl_18, nl_19, nl_20, nl_21, nl_22, nl_23, nl_24, nl_25, nl_26, nl_27, nl_28, nl_29, nl_30, nl_32, nl_33, nl_34, nl_35, nl_36, nl_37, nl_38, nl_39, nl_40, nl_41, nl_42, nl_43, nl_44, nl_45, nl_46, nl_47, nl_48, nl_49, nl_50, nl_51, nl_52, nl_53, nl_54, nl_55, nl_56, nl_57, nl_58, nl_59, nl_60, nl_61, nl_62, nl_64, nl_65, nl_66, nl_67, nl_68, nl_69, nl_92, nl_97, nl_99, nl_100, nl_122, nl_127, nl_128, nl_131, nl_132, nl_150, nl_200, nl_255, nl_256, nl_300, nl_342, nl_380, nl_381, nl_400, nl_401, nl_420, nl_500, nl_600, nl_800, nl_999, nl_1000, nl_1023, nl_1024, nl_1200, nl_2048, nl_2100, nl_4096, nl_9999, nl_10000, nl_10240, nl_999999, nl_1000000, if_pos, if_neg, ha, hb, eUM2]
        refine (lp_up (fun s => mj_den mj_P E (d + 99) 254 40 [.ref 205, .int (nI A), .int b, .int (nI W), .int (nI (wy_B wo l W A s)), .int (nI (s + 1))] [] (mj_hw w c' (mj_u f 205 0 0) hl2)) W (fun s hs => ?_)).trans ?_
        · show mj_den mj_P E (d + 99) 254 40 [.ref 205, .int (nI A), .int b, .int (nI W), .int (nI (wy_B wo l W A s)), .int (nI (s + 1))] [] (mj_hw w c' (mj_u f 205 0 0) hl2) = mj_den mj_P E (d + 99) 254 40 [.ref 205, .int (nI A), .int b, .int (nI W), .int (nI (wy_B wo l W A (s + 1))), .int (nI (s + 1 + 1))] [] (mj_hw w c' (mj_u f 205 0 0) hl2)
          have hBl := wy_B_le wo l W A s
          have e1 := eW (s + 1) (by omega)
          have e2 := eW2 (s + 1) (by omega)
          have e3 := eW (wy_B wo l W A s) (by omega)
          have v1 := hV (s + 1)
          have v2 := hC (s + 1)
          have v3 := hV (wy_B wo l W A s)
          have hdl := mj_df_le (s + 1) W (n := 12) (by omega)
          have hsub : (nI (s + 1) &&& (nI W ^^^ -1) = 0) = (mj_df (s + 1) W = 0) := by rw [bx_df, mj_ez (by omega)]
          rw [q254_40, wy_B_s]
          by_cases h2 : mj_df (s + 1) W = 0
          · by_cases h3 : wp_cs (fun k => wo k / 2) (s + 1) l ≤ A
            · by_cases h4 : wp_cs wo (wy_B wo l W A s) l < wp_cs wo (s + 1) l
              · rw [if_pos (show mj_df (s + 1) W = 0 ∧ _ from ⟨h2, h3, h4⟩)]
                simp (disch := omega) only [q254_0, q254_14, q254_24, q254_27, q254_29, q254_33, q254_62, q254_73, q254_80, q254_87, q254_104, q254_107, q254_109, ↓reduceIte, Bool.false_eq_true, eq_self, mj_10, mj_01, mj_n10, mj_0n1, mj_1n1, mj_n11, mj_bi_some, mj_bv_some, mj_bj_some, mj_br_some, mj_r0, mj_r1, mj_q0, mj_q1, mj_b01, mj_q2, if_true, if_false, mj_it, mj_if, true_and, and_true, false_and, and_false, not_true_eq_false, not_false_eq_true, true_or, or_true, false_or, or_false, mj_nIle, mj_nIlt, mj_nIeq, mj_nI0, mj_nIc, mj_nIadd, mj_nIs, mj_ez, mj_ze, mj_eo, mj_ltz, mj_lez, mj_zlt, mj_olt, mj_lto, mj_leo, mj_ole, mj_nIn, mj_nnI, nl_2, nl_3, nl_4, nl_5, nl_6, nl_7, nl_8, nl_9, nl_10, nl_11, nl_12, nl_13, nl_14, nl_15, nl_16, nl_17, nl_18, nl_19, nl_20, nl_21, nl_22, nl_23, nl_24, nl_25, nl_26, nl_27, nl_28, nl_29, nl_30, nl_32, nl_33, nl_34, nl_35, nl_36, nl_37, nl_38, nl_39, nl_40, nl_41, nl_42, nl_43, nl_44, nl_45, nl_46, nl_47, nl_48, nl_49, nl_50, nl_51, nl_52, nl_53, nl_54, nl_55, nl_56, nl_57, nl_58, nl_59, nl_60, nl_61, nl_62, nl_64, nl_65, nl_66, nl_67, nl_68, nl_69, nl_92, nl_97, nl_99, nl_100, nl_122, nl_127, nl_128, nl_131, nl_132, nl_150, nl_200, nl_255, nl_256, nl_300, nl_342, nl_380, nl_381, nl_400, nl_401, nl_420, nl_500, nl_600, nl_800, nl_999, nl_1000, nl_1023, nl_1024, nl_1200, nl_2048, nl_2100, nl_4096, nl_9999, nl_10000, nl_10240, nl_999999, nl_1000000, if_pos, if_neg, hsub, h2, e1, e2, e3]
              · rw [if_neg (show ¬ (mj_df (s + 1) W = 0 ∧ _) from fun z => h4 z.2.2)]
                simp (disch := omega) only [q254_0, q254_14, q254_24, q254_27, q254_29, q254_33, q254_62, q254_73, q254_80, q254_87, q254_104, q254_107, q254_109, ↓reduceIte, Bool.false_eq_true, eq_self, mj_10, mj_01, mj_n10, mj_0n1, mj_1n1, mj_n11, mj_bi_some, mj_bv_some, mj_bj_some, mj_br_some, mj_r0, mj_r1, mj_q0, mj_q1, mj_b01, mj_q2, if_true, if_false, mj_it, mj_if, true_and, and_true, false_and, and_false, not_true_eq_false, not_false_eq_true, true_or, or_true, false_or, or_false, mj_nIle, mj_nIlt, mj_nIeq, mj_nI0, mj_nIc, mj_nIadd, mj_nIs, mj_ez, mj_ze, mj_eo, mj_ltz, mj_lez, mj_zlt, mj_olt, mj_lto, mj_leo, mj_ole, mj_nIn, mj_nnI, nl_2, nl_3, nl_4, nl_5, nl_6, nl_7, nl_8, nl_9, nl_10, nl_11, nl_12, nl_13, nl_14, nl_15, nl_16, nl_17, nl_18, nl_19, nl_20, nl_21, nl_22, nl_23, nl_24, nl_25, nl_26, nl_27, nl_28, nl_29, nl_30, nl_32, nl_33, nl_34, nl_35, nl_36, nl_37, nl_38, nl_39, nl_40, nl_41, nl_42, nl_43, nl_44, nl_45, nl_46, nl_47, nl_48, nl_49, nl_50, nl_51, nl_52, nl_53, nl_54, nl_55, nl_56, nl_57, nl_58, nl_59, nl_60, nl_61, nl_62, nl_64, nl_65, nl_66, nl_67, nl_68, nl_69, nl_92, nl_97, nl_99, nl_100, nl_122, nl_127, nl_128, nl_131, nl_132, nl_150, nl_200, nl_255, nl_256, nl_300, nl_342, nl_380, nl_381, nl_400, nl_401, nl_420, nl_500, nl_600, nl_800, nl_999, nl_1000, nl_1023, nl_1024, nl_1200, nl_2048, nl_2100, nl_4096, nl_9999, nl_10000, nl_10240, nl_999999, nl_1000000, if_pos, if_neg, hsub, h2, e1, e2, e3]
            · rw [if_neg (show ¬ (mj_df (s + 1) W = 0 ∧ _) from fun z => h3 z.2.1)]
              simp (disch := omega) only [q254_0, q254_14, q254_24, q254_27, q254_29, q254_33, q254_62, q254_73, q254_80, q254_87, q254_104, q254_107, q254_109, ↓reduceIte, Bool.false_eq_true, eq_self, mj_10, mj_01, mj_n10, mj_0n1, mj_1n1, mj_n11, mj_bi_some, mj_bv_some, mj_bj_some, mj_br_some, mj_r0, mj_r1, mj_q0, mj_q1, mj_b01, mj_q2, if_true, if_false, mj_it, mj_if, true_and, and_true, false_and, and_false, not_true_eq_false, not_false_eq_true, true_or, or_true, false_or, or_false, mj_nIle, mj_nIlt, mj_nIeq, mj_nI0, mj_nIc, mj_nIadd, mj_nIs, mj_ez, mj_ze, mj_eo, mj_ltz, mj_lez, mj_zlt, mj_olt, mj_lto, mj_leo, mj_ole, mj_nIn, mj_nnI, nl_2, nl_3, nl_4, nl_5, nl_6, nl_7, nl_8, nl_9, nl_10, nl_11, nl_12, nl_13, nl_14, nl_15, nl_16, nl_17, nl_18, nl_19, nl_20, nl_21, nl_22, nl_23, nl_24, nl_25, nl_26, nl_27, nl_28, nl_29, nl_30, nl_32, nl_33, nl_34, nl_35, nl_36, nl_37, nl_38, nl_39, nl_40, nl_41, nl_42, nl_43, nl_44, nl_45, nl_46, nl_47, nl_48, nl_49, nl_50, nl_51, nl_52, nl_53, nl_54, nl_55, nl_56, nl_57, nl_58, nl_59, nl_60, nl_61, nl_62, nl_64, nl_65, nl_66, nl_67, nl_68, nl_69, nl_92, nl_97, nl_99, nl_100, nl_122, nl_127, nl_128, nl_131, nl_132, nl_150, nl_200, nl_255, nl_256, nl_300, nl_342, nl_380, nl_381, nl_400, nl_401, nl_420, nl_500, nl_600, nl_800, nl_999, nl_1000, nl_1023, nl_1024, nl_1200, nl_2048, nl_2100, nl_4096, nl_9999, nl_10000, nl_10240, nl_999999, nl_1000000, if_pos, if_neg, hsub, h2, e1, e2, e3]
          · rw [if_neg (show ¬ (mj_df (s + 1) W = 0 ∧ _) from fun z => h2 z.1)]
            simp (disch := omega) only [q254_0, q254_14, q254_24, q254_27, q254_29, q254_33, q254_62, q254_73, q254_80, q254_87, q254_104, q254_107, q254_109, ↓reduceIte, Bool.false_eq_true, eq_self, mj_10, mj_01, mj_n10, mj_0n1, mj_1n1, mj_n11, mj_bi_some, mj_bv_some, mj_bj_some, mj_br_some, mj_r0, mj_r1, mj_q0, mj_q1, mj_b01, mj_q2, if_true, if_false, mj_it, mj_if, true_and, and_true, false_and, and_false, not_true_eq_false, not_false_eq_true, true_or, or_true, false_or, or_false, mj_nIle, mj_nIlt, mj_nIeq, mj_nI0, mj_nIc, mj_nIadd, mj_nIs, mj_ez, mj_ze, mj_eo, mj_ltz, mj_lez, mj_zlt, mj_olt, mj_lto, mj_leo, mj_ole, mj_nIn, mj_nnI, nl_2, nl_3, nl_4, nl_5, nl_6, nl_7, nl_8, nl_9, nl_10, nl_11, nl_12, nl_13, nl_14, nl_15, nl_16, nl_17, nl_18, nl_19, nl_20, nl_21, nl_22, nl_23, nl_24, nl_25, nl_26, nl_27, nl_28, nl_29, nl_30, nl_32, nl_33, nl_34, nl_35, nl_36, nl_37, nl_38, nl_39, nl_40, nl_41, nl_42, nl_43, nl_44, nl_45, nl_46, nl_47, nl_48, nl_49, nl_50, nl_51, nl_52, nl_53, nl_54, nl_55, nl_56, nl_57, nl_58, nl_59, nl_60, nl_61, nl_62, nl_64, nl_65, nl_66, nl_67, nl_68, nl_69, nl_92, nl_97, nl_99, nl_100, nl_122, nl_127, nl_128, nl_131, nl_132, nl_150, nl_200, nl_255, nl_256, nl_300, nl_342, nl_380, nl_381, nl_400, nl_401, nl_420, nl_500, nl_600, nl_800, nl_999, nl_1000, nl_1023, nl_1024, nl_1200, nl_2048, nl_2100, nl_4096, nl_9999, nl_10000, nl_10240, nl_999999, nl_1000000, if_pos, if_neg, hsub, h2]
        · show mj_den mj_P E (d + 99) 254 40 [.ref 205, .int (nI A), .int b, .int (nI W), .int (nI (wy_B wo l W A W)), .int (nI (W + 1))] [] (mj_hw w c' (mj_u f 205 0 0) hl2) = _
          rw [q254_40, if_pos (by rw [mj_nIlt (by omega) (by omega)]; omega), hF]
      have h1a : ¬ nI A < 1 := by rw [mj_lto hA]; omega
      have h01 : b = 0 ∨ b = 1 := by
        obtain ⟨B, hB, rfl⟩ := mj_ofn hb.1
        have h3 := hb.2
        rw [mj_leo hB] at h3
        have : B = 0 ∨ B = 1 := by omega
        rcases this with rfl | rfl
        · exact Or.inl rfl
        · exact Or.inr rfl
      rcases h01 with rfl | rfl
      · refine ⟨nI (wp_cs wo F l), w, c', f, hl2, mj_u f 205 0 0, ?_, ?_, gI, ⟨hw.1, hw.2.1, c4⟩⟩
        · have eX : mj_dc mj_P E (d + 99) 80 [.ref 2, .int (nI F)] (mj_hw w c' f hl2) = _ := s_worX (d := d + 97) (wo := wo) (s := F) l12 (by omega) (by rw [f1 _ _ (by omega)]; exact a1) (fun j hj => by rw [f1 _ _ (by omega)]; exact (hwo j hj).2.1)
          simp (disch := omega) only [q130_0, q130_17, q130_20, q130_22, q130_37, q130_53, q130_56, q130_57, e130, s_within, ↓reduceIte, Bool.false_eq_true, eq_self, mj_10, mj_01, mj_n10, mj_0n1, mj_1n1, mj_n11, mj_bi_some, mj_bv_some, mj_bj_some, mj_br_some, mj_r0, mj_r1, mj_q0, mj_q1, mj_b01, mj_q2, if_true, if_false, mj_it, mj_if, true_and, and_true, false_and, and_false, not_true_eq_false, not_false_eq_true, true_or, or_true, false_or, or_false, mj_nIle, mj_nIlt, mj_nIeq, mj_nI0, mj_nIc, mj_nIadd, mj_nIs, mj_ez, mj_ze, mj_eo, mj_ltz, mj_lez, mj_zlt, mj_olt, mj_lto, mj_leo, mj_ole, mj_nIn, mj_nnI, nl_2, nl_3, nl_4, nl_5, nl_6, nl_7, nl_8, nl_9, nl_10, nl_11, nl_12, nl_13, nl_14, nl_15, nl_16, nl_17, nl_18, nl_19, nl_20, nl_21, nl_22, nl_23, nl_24, nl_25, nl_26, nl_27, nl_28, nl_29, nl_30, nl_32, nl_33, nl_34, nl_35, nl_36, nl_37, nl_38, nl_39, nl_40, nl_41, nl_42, nl_43, nl_44, nl_45, nl_46, nl_47, nl_48, nl_49, nl_50, nl_51, nl_52, nl_53, nl_54, nl_55, nl_56, nl_57, nl_58, nl_59, nl_60, nl_61, nl_62, nl_64, nl_65, nl_66, nl_67, nl_68, nl_69, nl_92, nl_97, nl_99, nl_100, nl_122, nl_127, nl_128, nl_131, nl_132, nl_150, nl_200, nl_255, nl_256, nl_300, nl_342, nl_380, nl_381, nl_400, nl_401, nl_420, nl_500, nl_600, nl_800, nl_999, nl_1000, nl_1023, nl_1024, nl_1200, nl_2048, nl_2100, nl_4096, nl_9999, nl_10000, nl_10240, nl_999999, nl_1000000, if_pos, if_neg, h1a, hb, hX, eX]
        · have e3 := eW F (by omega)
          rw [eM]; simp (disch := omega) only [↓reduceIte, Bool.false_eq_true, eq_self, mj_10, mj_01, mj_n10, mj_0n1, mj_1n1, mj_n11, mj_bi_some, mj_bv_some, mj_bj_some, mj_br_some, mj_r0, mj_r1, mj_q0, mj_q1, mj_b01, mj_q2, if_true, if_false, mj_it, mj_if, true_and, and_true, false_and, and_false, not_true_eq_false, not_false_eq_true, true_or, or_true, false_or, or_false, mj_nIle, mj_nIlt, mj_nIeq, mj_nI0, mj_nIc, mj_nIadd, mj_nIs, mj_ez, mj_ze, mj_eo, mj_ltz, mj_lez, mj_zlt, mj_olt, mj_lto, mj_leo, mj_ole, mj_nIn, mj_nnI, nl_2, nl_3, nl_4, nl_5, nl_6, nl_7, nl_8, nl_9, nl_10, nl_11, nl_12, nl_13, nl_14, nl_15, nl_16, nl_17, nl_18, nl_19, nl_20, nl_21, nl_22, nl_23, nl_24, nl_25, nl_26, nl_27, nl_28, nl_29, nl_30, nl_32, nl_33, nl_34, nl_35, nl_36, nl_37, nl_38, nl_39, nl_40, nl_41, nl_42, nl_43, nl_44, nl_45, nl_46, nl_47, nl_48, nl_49, nl_50, nl_51, nl_52, nl_53, nl_54, nl_55, nl_56, nl_57, nl_58, nl_59, nl_60, nl_61, nl_62, nl_64, nl_65, nl_66, nl_67, nl_68, nl_69, nl_92, nl_97, nl_99, nl_100, nl_122, nl_127, nl_128, nl_131, nl_132, nl_150, nl_200, nl_255, nl_256, nl_300, nl_342, nl_380, nl_381, nl_400, nl_401, nl_420, nl_500, nl_600, nl_800, nl_999, nl_1000, nl_1023, nl_1024, nl_1200, nl_2048, nl_2100, nl_4096, nl_9999, nl_10000, nl_10240, nl_999999, nl_1000000, if_pos, if_neg, q254_93, q254_104, q254_107, q254_109, e3]
      · refine ⟨nI F, w, c', f, hl2, mj_u f 205 0 0, ?_, ?_, gI, ⟨hw.1, hw.2.1, c4⟩⟩
        · simp (disch := omega) only [q130_0, q130_17, q130_20, q130_22, q130_37, q130_53, q130_56, q130_57, e130, s_within, ↓reduceIte, Bool.false_eq_true, eq_self, mj_10, mj_01, mj_n10, mj_0n1, mj_1n1, mj_n11, mj_bi_some, mj_bv_some, mj_bj_some, mj_br_some, mj_r0, mj_r1, mj_q0, mj_q1, mj_b01, mj_q2, if_true, if_false, mj_it, mj_if, true_and, and_true, false_and, and_false, not_true_eq_false, not_false_eq_true, true_or, or_true, false_or, or_false, mj_nIle, mj_nIlt, mj_nIeq, mj_nI0, mj_nIc, mj_nIadd, mj_nIs, mj_ez, mj_ze, mj_eo, mj_ltz, mj_lez, mj_zlt, mj_olt, mj_lto, mj_leo, mj_ole, mj_nIn, mj_nnI, nl_2, nl_3, nl_4, nl_5, nl_6, nl_7, nl_8, nl_9, nl_10, nl_11, nl_12, nl_13, nl_14, nl_15, nl_16, nl_17, nl_18, nl_19, nl_20, nl_21, nl_22, nl_23, nl_24, nl_25, nl_26, nl_27, nl_28, nl_29, nl_30, nl_32, nl_33, nl_34, nl_35, nl_36, nl_37, nl_38, nl_39, nl_40, nl_41, nl_42, nl_43, nl_44, nl_45, nl_46, nl_47, nl_48, nl_49, nl_50, nl_51, nl_52, nl_53, nl_54, nl_55, nl_56, nl_57, nl_58, nl_59, nl_60, nl_61, nl_62, nl_64, nl_65, nl_66, nl_67, nl_68, nl_69, nl_92, nl_97, nl_99, nl_100, nl_122, nl_127, nl_128, nl_131, nl_132, nl_150, nl_200, nl_255, nl_256, nl_300, nl_342, nl_380, nl_381, nl_400, nl_401, nl_420, nl_500, nl_600, nl_800, nl_999, nl_1000, nl_1023, nl_1024, nl_1200, nl_2048, nl_2100, nl_4096, nl_9999, nl_10000, nl_10240, nl_999999, nl_1000000, if_pos, if_neg, h1a, hb, hX]
        · rw [eM]; simp (disch := omega) only [↓reduceIte, Bool.false_eq_true, eq_self, mj_10, mj_01, mj_n10, mj_0n1, mj_1n1, mj_n11, mj_bi_some, mj_bv_some, mj_bj_some, mj_br_some, mj_r0, mj_r1, mj_q0, mj_q1, mj_b01, mj_q2, if_true, if_false, mj_it, mj_if, true_and, and_true, false_and, and_false, not_true_eq_false, not_false_eq_true, true_or, or_true, false_or, or_false, mj_nIle, mj_nIlt, mj_nIeq, mj_nI0, mj_nIc, mj_nIadd, mj_nIs, mj_ez, mj_ze, mj_eo, mj_ltz, mj_lez, mj_zlt, mj_olt, mj_lto, mj_leo, mj_ole, mj_nIn, mj_nnI, nl_2, nl_3, nl_4, nl_5, nl_6, nl_7, nl_8, nl_9, nl_10, nl_11, nl_12, nl_13, nl_14, nl_15, nl_16, nl_17, nl_18, nl_19, nl_20, nl_21, nl_22, nl_23, nl_24, nl_25, nl_26, nl_27, nl_28, nl_29, nl_30, nl_32, nl_33, nl_34, nl_35, nl_36, nl_37, nl_38, nl_39, nl_40, nl_41, nl_42, nl_43, nl_44, nl_45, nl_46, nl_47, nl_48, nl_49, nl_50, nl_51, nl_52, nl_53, nl_54, nl_55, nl_56, nl_57, nl_58, nl_59, nl_60, nl_61, nl_62, nl_64, nl_65, nl_66, nl_67, nl_68, nl_69, nl_92, nl_97, nl_99, nl_100, nl_122, nl_127, nl_128, nl_131, nl_132, nl_150, nl_200, nl_255, nl_256, nl_300, nl_342, nl_380, nl_381, nl_400, nl_401, nl_420, nl_500, nl_600, nl_800, nl_999, nl_1000, nl_1023, nl_1024, nl_1200, nl_2048, nl_2100, nl_4096, nl_9999, nl_10000, nl_10240, nl_999999, nl_1000000, if_pos, if_neg, q254_93, q254_104, q254_107, q254_109]
    · refine ⟨-1, w, c, hi, hl, mj_u hi 205 0 0, ?_, ?_, iv_told q, hw⟩
      · have h1a : ¬ nI A < 1 := by rw [mj_lto hA]; omega
        simp (disch := omega) only [q130_0, q130_17, q130_20, q130_22, q130_37, q130_53, q130_56, q130_57, e130, s_within, ↓reduceIte, Bool.false_eq_true, eq_self, mj_10, mj_01, mj_n10, mj_0n1, mj_1n1, mj_n11, mj_bi_some, mj_bv_some, mj_bj_some, mj_br_some, mj_r0, mj_r1, mj_q0, mj_q1, mj_b01, mj_q2, if_true, if_false, mj_it, mj_if, true_and, and_true, false_and, and_false, not_true_eq_false, not_false_eq_true, true_or, or_true, false_or, or_false, mj_nIle, mj_nIlt, mj_nIeq, mj_nI0, mj_nIc, mj_nIadd, mj_nIs, mj_ez, mj_ze, mj_eo, mj_ltz, mj_lez, mj_zlt, mj_olt, mj_lto, mj_leo, mj_ole, mj_nIn, mj_nnI, nl_2, nl_3, nl_4, nl_5, nl_6, nl_7, nl_8, nl_9, nl_10, nl_11, nl_12, nl_13, nl_14, nl_15, nl_16, nl_17, nl_18, nl_19, nl_20, nl_21, nl_22, nl_23, nl_24, nl_25, nl_26, nl_27, nl_28, nl_29, nl_30, nl_32, nl_33, nl_34, nl_35, nl_36, nl_37, nl_38, nl_39, nl_40, nl_41, nl_42, nl_43, nl_44, nl_45, nl_46, nl_47, nl_48, nl_49, nl_50, nl_51, nl_52, nl_53, nl_54, nl_55, nl_56, nl_57, nl_58, nl_59, nl_60, nl_61, nl_62, nl_64, nl_65, nl_66, nl_67, nl_68, nl_69, nl_92, nl_97, nl_99, nl_100, nl_122, nl_127, nl_128, nl_131, nl_132, nl_150, nl_200, nl_255, nl_256, nl_300, nl_342, nl_380, nl_381, nl_400, nl_401, nl_420, nl_500, nl_600, nl_800, nl_999, nl_1000, nl_1023, nl_1024, nl_1200, nl_2048, nl_2100, nl_4096, nl_9999, nl_10000, nl_10240, nl_999999, nl_1000000, if_pos, if_neg, h1a, hb]
      · simp (disch := omega) only [e254, q254_0, q254_14, q254_24, q254_27, s_isIn, ↓reduceIte, Bool.false_eq_true, eq_self, mj_10, mj_01, mj_n10, mj_0n1, mj_1n1, mj_n11, mj_bi_some, mj_bv_some, mj_bj_some, mj_br_some, mj_r0, mj_r1, mj_q0, mj_q1, mj_b01, mj_q2, if_true, if_false, mj_it, mj_if, true_and, and_true, false_and, and_false, not_true_eq_false, not_false_eq_true, true_or, or_true, false_or, or_false, mj_nIle, mj_nIlt, mj_nIeq, mj_nI0, mj_nIc, mj_nIadd, mj_nIs, mj_ez, mj_ze, mj_eo, mj_ltz, mj_lez, mj_zlt, mj_olt, mj_lto, mj_leo, mj_ole, mj_nIn, mj_nnI, nl_2, nl_3, nl_4, nl_5, nl_6, nl_7, nl_8, nl_9, nl_10, nl_11, nl_12, nl_13, nl_14, nl_15, nl_16, nl_17, nl_18, nl_19, nl_20, nl_21, nl_22, nl_23, nl_24, nl_25, nl_26, nl_27, nl_28, nl_29, nl_30, nl_32, nl_33, nl_34, nl_35, nl_36, nl_37, nl_38, nl_39, nl_40, nl_41, nl_42, nl_43, nl_44, nl_45, nl_46, nl_47, nl_48, nl_49, nl_50, nl_51, nl_52, nl_53, nl_54, nl_55, nl_56, nl_57, nl_58, nl_59, nl_60, nl_61, nl_62, nl_64, nl_65, nl_66, nl_67, nl_68, nl_69, nl_92, nl_97, nl_99, nl_100, nl_122, nl_127, nl_128, nl_131, nl_132, nl_150, nl_200, nl_255, nl_256, nl_300, nl_342, nl_380, nl_381, nl_400, nl_401, nl_420, nl_500, nl_600, nl_800, nl_999, nl_1000, nl_1023, nl_1024, nl_1200, nl_2048, nl_2100, nl_4096, nl_9999, nl_10000, nl_10240, nl_999999, nl_1000000, if_pos, if_neg, ha, hb]
  · refine ⟨-1, w, c, hi, hl, mj_u hi 205 0 0, ?_, ?_, iv_told q, hw⟩
    · by_cases h1 : a < 1
      · simp (disch := omega) only [q130_0, q130_17, q130_20, q130_22, q130_37, q130_53, q130_56, q130_57, e130, s_within, ↓reduceIte, Bool.false_eq_true, eq_self, mj_10, mj_01, mj_n10, mj_0n1, mj_1n1, mj_n11, mj_bi_some, mj_bv_some, mj_bj_some, mj_br_some, mj_r0, mj_r1, mj_q0, mj_q1, mj_b01, mj_q2, if_true, if_false, mj_it, mj_if, true_and, and_true, false_and, and_false, not_true_eq_false, not_false_eq_true, true_or, or_true, false_or, or_false, mj_nIle, mj_nIlt, mj_nIeq, mj_nI0, mj_nIc, mj_nIadd, mj_nIs, mj_ez, mj_ze, mj_eo, mj_ltz, mj_lez, mj_zlt, mj_olt, mj_lto, mj_leo, mj_ole, mj_nIn, mj_nnI, nl_2, nl_3, nl_4, nl_5, nl_6, nl_7, nl_8, nl_9, nl_10, nl_11, nl_12, nl_13, nl_14, nl_15, nl_16, nl_17, nl_18, nl_19, nl_20, nl_21, nl_22, nl_23, nl_24, nl_25, nl_26, nl_27, nl_28, nl_29, nl_30, nl_32, nl_33, nl_34, nl_35, nl_36, nl_37, nl_38, nl_39, nl_40, nl_41, nl_42, nl_43, nl_44, nl_45, nl_46, nl_47, nl_48, nl_49, nl_50, nl_51, nl_52, nl_53, nl_54, nl_55, nl_56, nl_57, nl_58, nl_59, nl_60, nl_61, nl_62, nl_64, nl_65, nl_66, nl_67, nl_68, nl_69, nl_92, nl_97, nl_99, nl_100, nl_122, nl_127, nl_128, nl_131, nl_132, nl_150, nl_200, nl_255, nl_256, nl_300, nl_342, nl_380, nl_381, nl_400, nl_401, nl_420, nl_500, nl_600, nl_800, nl_999, nl_1000, nl_1023, nl_1024, nl_1200, nl_2048, nl_2100, nl_4096, nl_9999, nl_10000, nl_10240, nl_999999, nl_1000000, if_pos, if_neg, h1]
      · have h2 : nI 9999 < a := Int32.not_le.mp (fun z => ha ⟨Int32.not_lt.mp h1, z⟩)
        simp (disch := omega) only [q130_0, q130_17, q130_20, q130_22, q130_37, q130_53, q130_56, q130_57, e130, s_within, ↓reduceIte, Bool.false_eq_true, eq_self, mj_10, mj_01, mj_n10, mj_0n1, mj_1n1, mj_n11, mj_bi_some, mj_bv_some, mj_bj_some, mj_br_some, mj_r0, mj_r1, mj_q0, mj_q1, mj_b01, mj_q2, if_true, if_false, mj_it, mj_if, true_and, and_true, false_and, and_false, not_true_eq_false, not_false_eq_true, true_or, or_true, false_or, or_false, mj_nIle, mj_nIlt, mj_nIeq, mj_nI0, mj_nIc, mj_nIadd, mj_nIs, mj_ez, mj_ze, mj_eo, mj_ltz, mj_lez, mj_zlt, mj_olt, mj_lto, mj_leo, mj_ole, mj_nIn, mj_nnI, nl_2, nl_3, nl_4, nl_5, nl_6, nl_7, nl_8, nl_9, nl_10, nl_11, nl_12, nl_13, nl_14, nl_15, nl_16, nl_17, nl_18, nl_19, nl_20, nl_21, nl_22, nl_23, nl_24, nl_25, nl_26, nl_27, nl_28, nl_29, nl_30, nl_32, nl_33, nl_34, nl_35, nl_36, nl_37, nl_38, nl_39, nl_40, nl_41, nl_42, nl_43, nl_44, nl_45, nl_46, nl_47, nl_48, nl_49, nl_50, nl_51, nl_52, nl_53, nl_54, nl_55, nl_56, nl_57, nl_58, nl_59, nl_60, nl_61, nl_62, nl_64, nl_65, nl_66, nl_67, nl_68, nl_69, nl_92, nl_97, nl_99, nl_100, nl_122, nl_127, nl_128, nl_131, nl_132, nl_150, nl_200, nl_255, nl_256, nl_300, nl_342, nl_380, nl_381, nl_400, nl_401, nl_420, nl_500, nl_600, nl_800, nl_999, nl_1000, nl_1023, nl_1024, nl_1200, nl_2048, nl_2100, nl_4096, nl_9999, nl_10000, nl_10240, nl_999999, nl_1000000, if_pos, if_neg, h1, h2]
    · simp (disch := omega) only [e254, q254_0, q254_14, q254_27, s_isIn, ↓reduceIte, Bool.false_eq_true, eq_self, mj_10, mj_01, mj_n10, mj_0n1, mj_1n1, mj_n11, mj_bi_some, mj_bv_some, mj_bj_some, mj_br_some, mj_r0, mj_r1, mj_q0, mj_q1, mj_b01, mj_q2, if_true, if_false, mj_it, mj_if, true_and, and_true, false_and, and_false, not_true_eq_false, not_false_eq_true, true_or, or_true, false_or, or_false, mj_nIle, mj_nIlt, mj_nIeq, mj_nI0, mj_nIc, mj_nIadd, mj_nIs, mj_ez, mj_ze, mj_eo, mj_ltz, mj_lez, mj_zlt, mj_olt, mj_lto, mj_leo, mj_ole, mj_nIn, mj_nnI, nl_2, nl_3, nl_4, nl_5, nl_6, nl_7, nl_8, nl_9, nl_10, nl_11, nl_12, nl_13, nl_14, nl_15, nl_16, nl_17, nl_18, nl_19, nl_20, nl_21, nl_22, nl_23, nl_24, nl_25, nl_26, nl_27, nl_28, nl_29, nl_30, nl_32, nl_33, nl_34, nl_35, nl_36, nl_37, nl_38, nl_39, nl_40, nl_41, nl_42, nl_43, nl_44, nl_45, nl_46, nl_47, nl_48, nl_49, nl_50, nl_51, nl_52, nl_53, nl_54, nl_55, nl_56, nl_57, nl_58, nl_59, nl_60, nl_61, nl_62, nl_64, nl_65, nl_66, nl_67, nl_68, nl_69, nl_92, nl_97, nl_99, nl_100, nl_122, nl_127, nl_128, nl_131, nl_132, nl_150, nl_200, nl_255, nl_256, nl_300, nl_342, nl_380, nl_381, nl_400, nl_401, nl_420, nl_500, nl_600, nl_800, nl_999, nl_1000, nl_1023, nl_1024, nl_1200, nl_2048, nl_2100, nl_4096, nl_9999, nl_10000, nl_10240, nl_999999, nl_1000000, if_pos, if_neg, ha]
