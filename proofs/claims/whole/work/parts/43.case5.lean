/-! quotients; the word of a minute; who pinches whom; look, of, word -/
theorem mj_nIdiv {a b : Nat} (ha : a < 2147483648) (hb : b < 2147483648) : nI a / nI b = nI (a / b) := by
  apply Int32.toInt_inj.mp
  rw [Int32.toInt_div_of_ne_right _ _ (fun z => by have := (mj_nIn hb).mp z; exact this), mj_nIi ha, mj_nIi hb, mj_nIi (Nat.lt_of_le_of_lt (Nat.div_le_self a b) ha)]
  exact (Int.ofNat_tdiv a b).symm
theorem mj_nIrem {a b : Nat} (ha : a < 2147483648) (hb : b < 2147483648) : mj_rem (nI a) (nI b) = nI (a % b) := by
  unfold mj_rem
  rw [mj_nIdiv ha hb, mj_nImul, mj_nIsub (Nat.div_mul_le_self a b)]
  congr 1
  have := Nat.div_add_mod a b
  rw [Nat.mul_comm] at this
  omega
/-- sums of a row -/
def wv_ws (y : Nat → Nat) : Nat → Nat
  | 0 => 0
  | n + 1 => wv_ws y n + y n
theorem wv_ws_s (y : Nat → Nat) (n : Nat) : wv_ws y (n + 1) = wv_ws y n + y n := rfl
theorem wv_ws_bd {y : Nat → Nat} {b : Nat} : ∀ n, (∀ i, i < n → y i ≤ b) → wv_ws y n ≤ n * b := by
  intro n
  induction n with
  | zero => intro _; simp [wv_ws]
  | succ n ih => intro h; rw [wv_ws_s, Nat.succ_mul]; have := ih (fun i hi => h i (by omega)); have := h n (by omega); omega
/-- the line in which a minute falls -/
def wv_wk (y : Nat → Nat) (L : Nat) : Nat → Nat → Nat
  | 0, i => i
  | f + 1, i => if L < wv_ws y (i + 1) then i else wv_wk y L f (i + 1)
theorem wv_wk_lt {y : Nat → Nat} {L : Nat} : ∀ f i, L < wv_ws y (i + f) → wv_ws y i ≤ L → wv_wk y L f i < i + f := by
  intro f
  induction f with
  | zero => intro i h1 h2; simp at h1; omega
  | succ f ih =>
    intro i h1 h2
    unfold wv_wk
    by_cases h : L < wv_ws y (i + 1)
    · rw [if_pos h]; omega
    · rw [if_neg h]
      have := ih (i + 1) (by rw [show i + 1 + f = i + (f + 1) by omega]; exact h1) (by omega)
      omega
def wv_wd (y : Nat → Nat) (x : Nat → Int32) (s m : Nat) : Int32 := if s = 0 then 0 else x (wv_wk y (m % wv_ws y s) s 0)
section MJ43
variable {E : mj_E} {d w c : Nat} {hi : Nat → Nat → Int32} {hl : Nat → Nat → Int64}
theorem s_wordX {s m : Nat} {y : Nat → Nat} (hs : s ≤ 16) (hm : m < 1000000) (h0 : hi 22 0 = nI s) (hy : ∀ i, i < s → 1 ≤ y i ∧ y i ≤ 60 ∧ hi 25 i = nI (y i)) : mj_dc mj_P E (d + 1) 103 [.ref 1, .int (nI m)] (mj_hw w c hi hl) = some (some (.int (wv_wd y (hi 24) s m)), mj_hw w c hi hl) := by
  have hb : ∀ k, k ≤ s → wv_ws y k ≤ 960 := fun k hk => by
    have := wv_ws_bd (y := y) (b := 60) k (fun i hi => (hy i (by omega)).2.1); omega
  rw [e103, q103_0]
  refine (lp_up (fun k => mj_den mj_P E d 103 4 [.ref 1, .int (nI m), .int (nI (wv_ws y k)), .int (nI k), .float 0] [] (mj_hw w c hi hl)) s (fun k hk => ?_)).trans ?_
  · show mj_den mj_P E d 103 4 [.ref 1, .int (nI m), .int (nI (wv_ws y k)), .int (nI k), .float 0] [] (mj_hw w c hi hl) = mj_den mj_P E d 103 4 [.ref 1, .int (nI m), .int (nI (wv_ws y (k + 1))), .int (nI (k + 1)), .float 0] [] (mj_hw w c hi hl)
    rw [q103_4, h0, wv_ws_s]
    simp (disch := omega) only [↓reduceIte, Bool.false_eq_true, eq_self, mj_10, mj_01, mj_n10, mj_0n1, mj_1n1, mj_n11, mj_bi_some, mj_bv_some, mj_bj_some, mj_br_some, mj_r0, mj_r1, mj_q0, mj_q1, mj_b01, mj_q2, if_true, if_false, mj_it, mj_if, true_and, and_true, false_and, and_false, not_true_eq_false, not_false_eq_true, true_or, or_true, false_or, or_false, mj_nIle, mj_nIlt, mj_nIeq, mj_nI0, mj_nIc, mj_nIadd, mj_nIs, mj_ez, mj_ze, mj_eo, mj_ltz, mj_lez, mj_zlt, mj_olt, mj_lto, mj_leo, mj_ole, mj_nIn, mj_nnI, nl_2, nl_3, nl_4, nl_5, nl_6, nl_7, nl_8, nl_9, nl_10, nl_11, nl_12, nl_13, nl_14, nl_15, nl_16, nl_17, nl_18, nl_19, nl_20, nl_21, nl_22, nl_23, nl_24, nl_25, nl_26, nl_27, nl_28, nl_29, nl_30, nl_32, nl_33, nl_34, nl_35, nl_36, nl_37, nl_38, nl_39, nl_40, nl_41, nl_42, nl_43, nl_44, nl_45, nl_46, nl_47, nl_48, nl_49, nl_50, nl_51, nl_52, nl_53, nl_54, nl_55, nl_56, nl_57, nl_58, nl_59, nl_60, nl_61, nl_62, nl_64, nl_65, nl_66, nl_67, nl_68, nl_69, nl_92, nl_97, nl_99, nl_100, nl_122, nl_127, nl_128, nl_131, nl_132, nl_150, nl_200, nl_255, nl_256, nl_300, nl_342, nl_380, nl_381, nl_400, nl_401, nl_420, nl_500, nl_600, nl_800, nl_999, nl_1000, nl_1023, nl_1024, nl_1200, nl_2048, nl_2100, nl_4096, nl_9999, nl_10000, nl_10240, nl_999999, nl_1000000, if_pos, if_neg, (hy k hk).2.2]
  · show mj_den mj_P E d 103 4 [.ref 1, .int (nI m), .int (nI (wv_ws y s)), .int (nI s), .float 0] [] (mj_hw w c hi hl) = _
    rw [q103_4, h0, if_pos (Int32.le_refl _), q103_39]
    unfold wv_wd
    by_cases hz : s = 0
    · subst hz
      simp (disch := omega) only [↓reduceIte, Bool.false_eq_true, eq_self, mj_10, mj_01, mj_n10, mj_0n1, mj_1n1, mj_n11, mj_bi_some, mj_bv_some, mj_bj_some, mj_br_some, mj_r0, mj_r1, mj_q0, mj_q1, mj_b01, mj_q2, if_true, if_false, mj_it, mj_if, true_and, and_true, false_and, and_false, not_true_eq_false, not_false_eq_true, true_or, or_true, false_or, or_false, mj_nIle, mj_nIlt, mj_nIeq, mj_nI0, mj_nIc, mj_nIadd, mj_nIs, mj_ez, mj_ze, mj_eo, mj_ltz, mj_lez, mj_zlt, mj_olt, mj_lto, mj_leo, mj_ole, mj_nIn, mj_nnI, nl_2, nl_3, nl_4, nl_5, nl_6, nl_7, nl_8, nl_9, nl_10, nl_11, nl_12, nl_13, nl_14, nl_15, nl_16, nl_17, nl_18, nl_19, nl_20, nl_21, nl_22, nl_23, nl_24, nl_25, nl_26, nl_27, nl_28, nl_29, nl_30, nl_32, nl_33, nl_34, nl_35, nl_36, nl_37, nl_38, nl_39, nl_40, nl_41, nl_42, nl_43, nl_44, nl_45, nl_46, nl_47, nl_48, nl_49, nl_50, nl_51, nl_52, nl_53, nl_54, nl_55, nl_56, nl_57, nl_58, nl_59, nl_60, nl_61, nl_62, nl_64, nl_65, nl_66, nl_67, nl_68, nl_69, nl_92, nl_97, nl_99, nl_100, nl_122, nl_127, nl_128, nl_131, nl_132, nl_150, nl_200, nl_255, nl_256, nl_300, nl_342, nl_380, nl_381, nl_400, nl_401, nl_420, nl_500, nl_600, nl_800, nl_999, nl_1000, nl_1023, nl_1024, nl_1200, nl_2048, nl_2100, nl_4096, nl_9999, nl_10000, nl_10240, nl_999999, nl_1000000, if_pos, if_neg, wv_ws, q103_49, q103_50, q103_54, q103_117, h0]
    · have hW : 1 ≤ wv_ws y s := by
        have h1 := (hy 0 (by omega)).1
        have : ∀ k, 1 ≤ k → k ≤ s → 1 ≤ wv_ws y k := by
          intro k
          induction k with
          | zero => intro h; omega
          | succ k ih => intro _ h; rw [wv_ws_s]; have := (hy k (by omega)).1; omega
        exact this s (by omega) (Nat.le_refl _)
      have hW2 := hb s (Nat.le_refl _)
      rw [if_neg hz]
      have hr : m % wv_ws y s < wv_ws y s := Nat.mod_lt _ (by omega)
      simp (disch := omega) only [↓reduceIte, Bool.false_eq_true, eq_self, mj_10, mj_01, mj_n10, mj_0n1, mj_1n1, mj_n11, mj_bi_some, mj_bv_some, mj_bj_some, mj_br_some, mj_r0, mj_r1, mj_q0, mj_q1, mj_b01, mj_q2, if_true, if_false, mj_it, mj_if, true_and, and_true, false_and, and_false, not_true_eq_false, not_false_eq_true, true_or, or_true, false_or, or_false, mj_nIle, mj_nIlt, mj_nIeq, mj_nI0, mj_nIc, mj_nIadd, mj_nIs, mj_ez, mj_ze, mj_eo, mj_ltz, mj_lez, mj_zlt, mj_olt, mj_lto, mj_leo, mj_ole, mj_nIn, mj_nnI, nl_2, nl_3, nl_4, nl_5, nl_6, nl_7, nl_8, nl_9, nl_10, nl_11, nl_12, nl_13, nl_14, nl_15, nl_16, nl_17, nl_18, nl_19, nl_20, nl_21, nl_22, nl_23, nl_24, nl_25, nl_26, nl_27, nl_28, nl_29, nl_30, nl_32, nl_33, nl_34, nl_35, nl_36, nl_37, nl_38, nl_39, nl_40, nl_41, nl_42, nl_43, nl_44, nl_45, nl_46, nl_47, nl_48, nl_49, nl_50, nl_51, nl_52, nl_53, nl_54, nl_55, nl_56, nl_57, nl_58, nl_59, nl_60, nl_61, nl_62, nl_64, nl_65, nl_66, nl_67, nl_68, nl_69, nl_92, nl_97, nl_99, nl_100, nl_122, nl_127, nl_128, nl_131, nl_132, nl_150, nl_200, nl_255, nl_256, nl_300, nl_342, nl_380, nl_381, nl_400, nl_401, nl_420, nl_500, nl_600, nl_800, nl_999, nl_1000, nl_1023, nl_1024, nl_1200, nl_2048, nl_2100, nl_4096, nl_9999, nl_10000, nl_10240, nl_999999, nl_1000000, if_pos, if_neg, mj_nIrem, q103_50]
      have key : ∀ f i, i + f = s → wv_ws y i ≤ m % wv_ws y s → mj_den mj_P E d 103 54 [.ref 1, .int (nI m), .int (nI (wv_ws y s)), .int (nI (m % wv_ws y s - wv_ws y i)), .int (nI i)] [] (mj_hw w c hi hl) = some (some (.int (hi 24 (wv_wk y (m % wv_ws y s) f i))), mj_hw w c hi hl) := by
        intro f
        induction f with
        | zero => intro i h1 h2; exfalso; rw [show i = s by omega] at h2; omega
        | succ f ih =>
          intro i h1 h2
          have hyi := hy i (by omega)
          have hws := wv_ws_s y i
          have hbi := hb i (by omega)
          unfold wv_wk
          by_cases h : m % wv_ws y s < wv_ws y (i + 1)
          · rw [if_pos h, q103_54, h0]
            simp (disch := omega) only [↓reduceIte, Bool.false_eq_true, eq_self, mj_10, mj_01, mj_n10, mj_0n1, mj_1n1, mj_n11, mj_bi_some, mj_bv_some, mj_bj_some, mj_br_some, mj_r0, mj_r1, mj_q0, mj_q1, mj_b01, mj_q2, if_true, if_false, mj_it, mj_if, true_and, and_true, false_and, and_false, not_true_eq_false, not_false_eq_true, true_or, or_true, false_or, or_false, mj_nIle, mj_nIlt, mj_nIeq, mj_nI0, mj_nIc, mj_nIadd, mj_nIs, mj_ez, mj_ze, mj_eo, mj_ltz, mj_lez, mj_zlt, mj_olt, mj_lto, mj_leo, mj_ole, mj_nIn, mj_nnI, nl_2, nl_3, nl_4, nl_5, nl_6, nl_7, nl_8, nl_9, nl_10, nl_11, nl_12, nl_13, nl_14, nl_15, nl_16, nl_17, nl_18, nl_19, nl_20, nl_21, nl_22, nl_23, nl_24, nl_25, nl_26, nl_27, nl_28, nl_29, nl_30, nl_32, nl_33, nl_34, nl_35, nl_36, nl_37, nl_38, nl_39, nl_40, nl_41, nl_42, nl_43, nl_44, nl_45, nl_46, nl_47, nl_48, nl_49, nl_50, nl_51, nl_52, nl_53, nl_54, nl_55, nl_56, nl_57, nl_58, nl_59, nl_60, nl_61, nl_62, nl_64, nl_65, nl_66, nl_67, nl_68, nl_69, nl_92, nl_97, nl_99, nl_100, nl_122, nl_127, nl_128, nl_131, nl_132, nl_150, nl_200, nl_255, nl_256, nl_300, nl_342, nl_380, nl_381, nl_400, nl_401, nl_420, nl_500, nl_600, nl_800, nl_999, nl_1000, nl_1023, nl_1024, nl_1200, nl_2048, nl_2100, nl_4096, nl_9999, nl_10000, nl_10240, nl_999999, nl_1000000, if_pos, if_neg, hyi]
          · rw [if_neg h, q103_54, h0]
            have hsub : nI (m % wv_ws y s - wv_ws y i) - nI (y i) = nI (m % wv_ws y s - wv_ws y (i + 1)) := by
              rw [mj_nIsub (by omega)]; congr 1; omega
            simp (disch := omega) only [↓reduceIte, Bool.false_eq_true, eq_self, mj_10, mj_01, mj_n10, mj_0n1, mj_1n1, mj_n11, mj_bi_some, mj_bv_some, mj_bj_some, mj_br_some, mj_r0, mj_r1, mj_q0, mj_q1, mj_b01, mj_q2, if_true, if_false, mj_it, mj_if, true_and, and_true, false_and, and_false, not_true_eq_false, not_false_eq_true, true_or, or_true, false_or, or_false, mj_nIle, mj_nIlt, mj_nIeq, mj_nI0, mj_nIc, mj_nIadd, mj_nIs, mj_ez, mj_ze, mj_eo, mj_ltz, mj_lez, mj_zlt, mj_olt, mj_lto, mj_leo, mj_ole, mj_nIn, mj_nnI, nl_2, nl_3, nl_4, nl_5, nl_6, nl_7, nl_8, nl_9, nl_10, nl_11, nl_12, nl_13, nl_14, nl_15, nl_16, nl_17, nl_18, nl_19, nl_20, nl_21, nl_22, nl_23, nl_24, nl_25, nl_26, nl_27, nl_28, nl_29, nl_30, nl_32, nl_33, nl_34, nl_35, nl_36, nl_37, nl_38, nl_39, nl_40, nl_41, nl_42, nl_43, nl_44, nl_45, nl_46, nl_47, nl_48, nl_49, nl_50, nl_51, nl_52, nl_53, nl_54, nl_55, nl_56, nl_57, nl_58, nl_59, nl_60, nl_61, nl_62, nl_64, nl_65, nl_66, nl_67, nl_68, nl_69, nl_92, nl_97, nl_99, nl_100, nl_122, nl_127, nl_128, nl_131, nl_132, nl_150, nl_200, nl_255, nl_256, nl_300, nl_342, nl_380, nl_381, nl_400, nl_401, nl_420, nl_500, nl_600, nl_800, nl_999, nl_1000, nl_1023, nl_1024, nl_1200, nl_2048, nl_2100, nl_4096, nl_9999, nl_10000, nl_10240, nl_999999, nl_1000000, if_pos, if_neg, hyi, q103_98, hsub]
            exact ih (i + 1) (by omega) (by omega)
      have := key s 0 (by omega) (by simp [wv_ws])
      rw [show m % wv_ws y s - wv_ws y 0 = m % wv_ws y s from rfl] at this
      exact this
theorem s_wordM {s m : Nat} {y : Nat → Nat} (hs : s ≤ 16) (hm : m < 1000000) (h0 : hi 205 36 = nI s) (hy : ∀ i, i < s → 1 ≤ y i ∧ y i ≤ 60 ∧ hi 224 (2 * i + 1) = nI (y i)) : mj_dc mj_P E (d + 1) 219 [.ref 205, .int (nI m)] (mj_hw w c hi hl) = some (some (.int (wv_wd y (fun k => hi 224 (2 * k)) s m)), mj_hw w c hi hl) := by
  have hb : ∀ k, k ≤ s → wv_ws y k ≤ 960 := fun k hk => by
    have := wv_ws_bd (y := y) (b := 60) k (fun i hi => (hy i (by omega)).2.1); omega
  rw [e219, q219_0]
  refine (lp_up (fun k => mj_den mj_P E d 219 4 [.ref 205, .int (nI m), .int (nI (wv_ws y k)), .int (nI k), .float 0] [] (mj_hw w c hi hl)) s (fun k hk => ?_)).trans ?_
  · show mj_den mj_P E d 219 4 [.ref 205, .int (nI m), .int (nI (wv_ws y k)), .int (nI k), .float 0] [] (mj_hw w c hi hl) = mj_den mj_P E d 219 4 [.ref 205, .int (nI m), .int (nI (wv_ws y (k + 1))), .int (nI (k + 1)), .float 0] [] (mj_hw w c hi hl)
    rw [q219_4, h0, wv_ws_s]
    simp (disch := omega) only [↓reduceIte, Bool.false_eq_true, eq_self, mj_10, mj_01, mj_n10, mj_0n1, mj_1n1, mj_n11, mj_bi_some, mj_bv_some, mj_bj_some, mj_br_some, mj_r0, mj_r1, mj_q0, mj_q1, mj_b01, mj_q2, if_true, if_false, mj_it, mj_if, true_and, and_true, false_and, and_false, not_true_eq_false, not_false_eq_true, true_or, or_true, false_or, or_false, mj_nIle, mj_nIlt, mj_nIeq, mj_nI0, mj_nIc, mj_nIadd, mj_nIs, mj_ez, mj_ze, mj_eo, mj_ltz, mj_lez, mj_zlt, mj_olt, mj_lto, mj_leo, mj_ole, mj_nIn, mj_nnI, nl_2, nl_3, nl_4, nl_5, nl_6, nl_7, nl_8, nl_9, nl_10, nl_11, nl_12, nl_13, nl_14, nl_15, nl_16, nl_17, nl_18, nl_19, nl_20, nl_21, nl_22, nl_23, nl_24, nl_25, nl_26, nl_27, nl_28, nl_29, nl_30, nl_32, nl_33, nl_34, nl_35, nl_36, nl_37, nl_38, nl_39, nl_40, nl_41, nl_42, nl_43, nl_44, nl_45, nl_46, nl_47, nl_48, nl_49, nl_50, nl_51, nl_52, nl_53, nl_54, nl_55, nl_56, nl_57, nl_58, nl_59, nl_60, nl_61, nl_62, nl_64, nl_65, nl_66, nl_67, nl_68, nl_69, nl_92, nl_97, nl_99, nl_100, nl_122, nl_127, nl_128, nl_131, nl_132, nl_150, nl_200, nl_255, nl_256, nl_300, nl_342, nl_380, nl_381, nl_400, nl_401, nl_420, nl_500, nl_600, nl_800, nl_999, nl_1000, nl_1023, nl_1024, nl_1200, nl_2048, nl_2100, nl_4096, nl_9999, nl_10000, nl_10240, nl_999999, nl_1000000, if_pos, if_neg, mj_nImul, (hy k hk).2.2]
  · show mj_den mj_P E d 219 4 [.ref 205, .int (nI m), .int (nI (wv_ws y s)), .int (nI s), .float 0] [] (mj_hw w c hi hl) = _
    rw [q219_4, h0, if_pos (Int32.le_refl _), q219_31]
    unfold wv_wd
    by_cases hz : s = 0
    · subst hz
      simp (disch := omega) only [↓reduceIte, Bool.false_eq_true, eq_self, mj_10, mj_01, mj_n10, mj_0n1, mj_1n1, mj_n11, mj_bi_some, mj_bv_some, mj_bj_some, mj_br_some, mj_r0, mj_r1, mj_q0, mj_q1, mj_b01, mj_q2, if_true, if_false, mj_it, mj_if, true_and, and_true, false_and, and_false, not_true_eq_false, not_false_eq_true, true_or, or_true, false_or, or_false, mj_nIle, mj_nIlt, mj_nIeq, mj_nI0, mj_nIc, mj_nIadd, mj_nIs, mj_ez, mj_ze, mj_eo, mj_ltz, mj_lez, mj_zlt, mj_olt, mj_lto, mj_leo, mj_ole, mj_nIn, mj_nnI, nl_2, nl_3, nl_4, nl_5, nl_6, nl_7, nl_8, nl_9, nl_10, nl_11, nl_12, nl_13, nl_14, nl_15, nl_16, nl_17, nl_18, nl_19, nl_20, nl_21, nl_22, nl_23, nl_24, nl_25, nl_26, nl_27, nl_28, nl_29, nl_30, nl_32, nl_33, nl_34, nl_35, nl_36, nl_37, nl_38, nl_39, nl_40, nl_41, nl_42, nl_43, nl_44, nl_45, nl_46, nl_47, nl_48, nl_49, nl_50, nl_51, nl_52, nl_53, nl_54, nl_55, nl_56, nl_57, nl_58, nl_59, nl_60, nl_61, nl_62, nl_64, nl_65, nl_66, nl_67, nl_68, nl_69, nl_92, nl_97, nl_99, nl_100, nl_122, nl_127, nl_128, nl_131, nl_132, nl_150, nl_200, nl_255, nl_256, nl_300, nl_342, nl_380, nl_381, nl_400, nl_401, nl_420, nl_500, nl_600, nl_800, nl_999, nl_1000, nl_1023, nl_1024, nl_1200, nl_2048, nl_2100, nl_4096, nl_9999, nl_10000, nl_10240, nl_999999, nl_1000000, if_pos, if_neg, wv_ws]
    · have hW : 1 ≤ wv_ws y s := by
        have h1 := (hy 0 (by omega)).1
        have : ∀ k, 1 ≤ k → k ≤ s → 1 ≤ wv_ws y k := by
          intro k
          induction k with
          | zero => intro h; omega
          | succ k ih => intro _ h; rw [wv_ws_s]; have := (hy k (by omega)).1; omega
        exact this s (by omega) (Nat.le_refl _)
      have hW2 := hb s (Nat.le_refl _)
      rw [if_neg hz]
      have hr : m % wv_ws y s < wv_ws y s := Nat.mod_lt _ (by omega)
      simp (disch := omega) only [↓reduceIte, Bool.false_eq_true, eq_self, mj_10, mj_01, mj_n10, mj_0n1, mj_1n1, mj_n11, mj_bi_some, mj_bv_some, mj_bj_some, mj_br_some, mj_r0, mj_r1, mj_q0, mj_q1, mj_b01, mj_q2, if_true, if_false, mj_it, mj_if, true_and, and_true, false_and, and_false, not_true_eq_false, not_false_eq_true, true_or, or_true, false_or, or_false, mj_nIle, mj_nIlt, mj_nIeq, mj_nI0, mj_nIc, mj_nIadd, mj_nIs, mj_ez, mj_ze, mj_eo, mj_ltz, mj_lez, mj_zlt, mj_olt, mj_lto, mj_leo, mj_ole, mj_nIn, mj_nnI, nl_2, nl_3, nl_4, nl_5, nl_6, nl_7, nl_8, nl_9, nl_10, nl_11, nl_12, nl_13, nl_14, nl_15, nl_16, nl_17, nl_18, nl_19, nl_20, nl_21, nl_22, nl_23, nl_24, nl_25, nl_26, nl_27, nl_28, nl_29, nl_30, nl_32, nl_33, nl_34, nl_35, nl_36, nl_37, nl_38, nl_39, nl_40, nl_41, nl_42, nl_43, nl_44, nl_45, nl_46, nl_47, nl_48, nl_49, nl_50, nl_51, nl_52, nl_53, nl_54, nl_55, nl_56, nl_57, nl_58, nl_59, nl_60, nl_61, nl_62, nl_64, nl_65, nl_66, nl_67, nl_68, nl_69, nl_92, nl_97, nl_99, nl_100, nl_122, nl_127, nl_128, nl_131, nl_132, nl_150, nl_200, nl_255, nl_256, nl_300, nl_342, nl_380, nl_381, nl_400, nl_401, nl_420, nl_500, nl_600, nl_800, nl_999, nl_1000, nl_1023, nl_1024, nl_1200, nl_2048, nl_2100, nl_4096, nl_9999, nl_10000, nl_10240, nl_999999, nl_1000000, if_pos, if_neg, mj_nIrem, q219_37]
      have key : ∀ f i, i + f = s → wv_ws y i ≤ m % wv_ws y s → mj_den mj_P E d 219 44 [.ref 205, .int (nI m), .int (nI (wv_ws y s)), .int (nI (m % wv_ws y s - wv_ws y i)), .int (nI i)] [] (mj_hw w c hi hl) = some (some (.int (hi 224 (2 * wv_wk y (m % wv_ws y s) f i))), mj_hw w c hi hl) := by
        intro f
        induction f with
        | zero => intro i h1 h2; exfalso; rw [show i = s by omega] at h2; omega
        | succ f ih =>
          intro i h1 h2
          have hyi := hy i (by omega)
          have hws := wv_ws_s y i
          have hbi := hb i (by omega)
          unfold wv_wk
          by_cases h : m % wv_ws y s < wv_ws y (i + 1)
          · rw [if_pos h, q219_44]
            simp (disch := omega) only [↓reduceIte, Bool.false_eq_true, eq_self, mj_10, mj_01, mj_n10, mj_0n1, mj_1n1, mj_n11, mj_bi_some, mj_bv_some, mj_bj_some, mj_br_some, mj_r0, mj_r1, mj_q0, mj_q1, mj_b01, mj_q2, if_true, if_false, mj_it, mj_if, true_and, and_true, false_and, and_false, not_true_eq_false, not_false_eq_true, true_or, or_true, false_or, or_false, mj_nIle, mj_nIlt, mj_nIeq, mj_nI0, mj_nIc, mj_nIadd, mj_nIs, mj_ez, mj_ze, mj_eo, mj_ltz, mj_lez, mj_zlt, mj_olt, mj_lto, mj_leo, mj_ole, mj_nIn, mj_nnI, nl_2, nl_3, nl_4, nl_5, nl_6, nl_7, nl_8, nl_9, nl_10, nl_11, nl_12, nl_13, nl_14, nl_15, nl_16, nl_17, nl_18, nl_19, nl_20, nl_21, nl_22, nl_23, nl_24, nl_25, nl_26, nl_27, nl_28, nl_29, nl_30, nl_32, nl_33, nl_34, nl_35, nl_36, nl_37, nl_38, nl_39, nl_40, nl_41, nl_42, nl_43, nl_44, nl_45, nl_46, nl_47, nl_48, nl_49, nl_50, nl_51, nl_52, nl_53, nl_54, nl_55, nl_56, nl_57, nl_58, nl_59, nl_60, nl_61, nl_62, nl_64, nl_65, nl_66, nl_67, nl_68, nl_69, nl_92, nl_97, nl_99, nl_100, nl_122, nl_127, nl_128, nl_131, nl_132, nl_150, nl_200, nl_255, nl_256, nl_300, nl_342, nl_380, nl_381, nl_400, nl_401, nl_420, nl_500, nl_600, nl_800, nl_999, nl_1000, nl_1023, nl_1024, nl_1200, nl_2048, nl_2100, nl_4096, nl_9999, nl_10000, nl_10240, nl_999999, nl_1000000, if_pos, if_neg, mj_nImul, hyi, q219_82]
          · rw [if_neg h, q219_44]
            have hsub : nI (m % wv_ws y s - wv_ws y i) - nI (y i) = nI (m % wv_ws y s - wv_ws y (i + 1)) := by
              rw [mj_nIsub (by omega)]; congr 1; omega
            simp (disch := omega) only [↓reduceIte, Bool.false_eq_true, eq_self, mj_10, mj_01, mj_n10, mj_0n1, mj_1n1, mj_n11, mj_bi_some, mj_bv_some, mj_bj_some, mj_br_some, mj_r0, mj_r1, mj_q0, mj_q1, mj_b01, mj_q2, if_true, if_false, mj_it, mj_if, true_and, and_true, false_and, and_false, not_true_eq_false, not_false_eq_true, true_or, or_true, false_or, or_false, mj_nIle, mj_nIlt, mj_nIeq, mj_nI0, mj_nIc, mj_nIadd, mj_nIs, mj_ez, mj_ze, mj_eo, mj_ltz, mj_lez, mj_zlt, mj_olt, mj_lto, mj_leo, mj_ole, mj_nIn, mj_nnI, nl_2, nl_3, nl_4, nl_5, nl_6, nl_7, nl_8, nl_9, nl_10, nl_11, nl_12, nl_13, nl_14, nl_15, nl_16, nl_17, nl_18, nl_19, nl_20, nl_21, nl_22, nl_23, nl_24, nl_25, nl_26, nl_27, nl_28, nl_29, nl_30, nl_32, nl_33, nl_34, nl_35, nl_36, nl_37, nl_38, nl_39, nl_40, nl_41, nl_42, nl_43, nl_44, nl_45, nl_46, nl_47, nl_48, nl_49, nl_50, nl_51, nl_52, nl_53, nl_54, nl_55, nl_56, nl_57, nl_58, nl_59, nl_60, nl_61, nl_62, nl_64, nl_65, nl_66, nl_67, nl_68, nl_69, nl_92, nl_97, nl_99, nl_100, nl_122, nl_127, nl_128, nl_131, nl_132, nl_150, nl_200, nl_255, nl_256, nl_300, nl_342, nl_380, nl_381, nl_400, nl_401, nl_420, nl_500, nl_600, nl_800, nl_999, nl_1000, nl_1023, nl_1024, nl_1200, nl_2048, nl_2100, nl_4096, nl_9999, nl_10000, nl_10240, nl_999999, nl_1000000, if_pos, if_neg, mj_nImul, hyi, hsub]
            exact ih (i + 1) (by omega) (by omega)
      have := key s 0 (by omega) (by simp [wv_ws])
      rw [show m % wv_ws y s - wv_ws y 0 = m % wv_ws y s from rfl] at this
      exact this
/-- whom a set pinches -/
def wv_pn (f t : Nat → Nat) (s : Nat) : Nat → Nat
  | 0 => 0
  | i + 1 => if s.testBit (f i) = true then wv_pn f t s i ||| 2 ^ (t i) else wv_pn f t s i
theorem s_pinch {p s : Nat} {f t : Nat → Nat} (hp : p ≤ 16) (hs : s < 4096) (h0 : hi 26 0 = nI p) (hf : ∀ i, i < p → hi 28 i = nI (f i) ∧ hi 29 i = nI (t i) ∧ f i < 10 ∧ t i < 10) : mj_dc mj_P E (d + 2) 104 [.ref 1, .int (nI s)] (mj_hw w c hi hl) = some (some (.int (nI (wv_pn f t s p))), mj_hw w c hi hl) := by
  rw [e104, q104_0]
  refine (lp_up (fun k => mj_den mj_P E (d + 1) 104 4 [.ref 1, .int (nI s), .int (nI (wv_pn f t s k)), .int (nI k)] [] (mj_hw w c hi hl)) p (fun k hk => ?_)).trans ?_
  · show mj_den mj_P E (d + 1) 104 4 [.ref 1, .int (nI s), .int (nI (wv_pn f t s k)), .int (nI k)] [] (mj_hw w c hi hl) = mj_den mj_P E (d + 1) 104 4 [.ref 1, .int (nI s), .int (nI (wv_pn f t s (k + 1))), .int (nI (k + 1))] [] (mj_hw w c hi hl)
    obtain ⟨f1, f2, f3, f4⟩ := hf k hk
    rw [q104_4, h0, show wv_pn f t s (k + 1) = if s.testBit (f k) = true then wv_pn f t s k ||| 2 ^ (t k) else wv_pn f t s k from rfl]
    by_cases hb : s.testBit (f k) = true
    · simp (disch := omega) only [↓reduceIte, Bool.false_eq_true, eq_self, mj_10, mj_01, mj_n10, mj_0n1, mj_1n1, mj_n11, mj_bi_some, mj_bv_some, mj_bj_some, mj_br_some, mj_r0, mj_r1, mj_q0, mj_q1, mj_b01, mj_q2, if_true, if_false, mj_it, mj_if, true_and, and_true, false_and, and_false, not_true_eq_false, not_false_eq_true, true_or, or_true, false_or, or_false, mj_nIle, mj_nIlt, mj_nIeq, mj_nI0, mj_nIc, mj_nIadd, mj_nIs, mj_ez, mj_ze, mj_eo, mj_ltz, mj_lez, mj_zlt, mj_olt, mj_lto, mj_leo, mj_ole, mj_nIn, mj_nnI, nl_2, nl_3, nl_4, nl_5, nl_6, nl_7, nl_8, nl_9, nl_10, nl_11, nl_12, nl_13, nl_14, nl_15, nl_16, nl_17, nl_18, nl_19, nl_20, nl_21, nl_22, nl_23, nl_24, nl_25, nl_26, nl_27, nl_28, nl_29, nl_30, nl_32, nl_33, nl_34, nl_35, nl_36, nl_37, nl_38, nl_39, nl_40, nl_41, nl_42, nl_43, nl_44, nl_45, nl_46, nl_47, nl_48, nl_49, nl_50, nl_51, nl_52, nl_53, nl_54, nl_55, nl_56, nl_57, nl_58, nl_59, nl_60, nl_61, nl_62, nl_64, nl_65, nl_66, nl_67, nl_68, nl_69, nl_92, nl_97, nl_99, nl_100, nl_122, nl_127, nl_128, nl_131, nl_132, nl_150, nl_200, nl_255, nl_256, nl_300, nl_342, nl_380, nl_381, nl_400, nl_401, nl_420, nl_500, nl_600, nl_800, nl_999, nl_1000, nl_1023, nl_1024, nl_1200, nl_2048, nl_2100, nl_4096, nl_9999, nl_10000, nl_10240, nl_999999, nl_1000000, if_pos, if_neg, f1, f2, s_hX, q104_34, q104_51, hb, bx_one, bx_or]
    · simp (disch := omega) only [↓reduceIte, Bool.false_eq_true, eq_self, mj_10, mj_01, mj_n10, mj_0n1, mj_1n1, mj_n11, mj_bi_some, mj_bv_some, mj_bj_some, mj_br_some, mj_r0, mj_r1, mj_q0, mj_q1, mj_b01, mj_q2, if_true, if_false, mj_it, mj_if, true_and, and_true, false_and, and_false, not_true_eq_false, not_false_eq_true, true_or, or_true, false_or, or_false, mj_nIle, mj_nIlt, mj_nIeq, mj_nI0, mj_nIc, mj_nIadd, mj_nIs, mj_ez, mj_ze, mj_eo, mj_ltz, mj_lez, mj_zlt, mj_olt, mj_lto, mj_leo, mj_ole, mj_nIn, mj_nnI, nl_2, nl_3, nl_4, nl_5, nl_6, nl_7, nl_8, nl_9, nl_10, nl_11, nl_12, nl_13, nl_14, nl_15, nl_16, nl_17, nl_18, nl_19, nl_20, nl_21, nl_22, nl_23, nl_24, nl_25, nl_26, nl_27, nl_28, nl_29, nl_30, nl_32, nl_33, nl_34, nl_35, nl_36, nl_37, nl_38, nl_39, nl_40, nl_41, nl_42, nl_43, nl_44, nl_45, nl_46, nl_47, nl_48, nl_49, nl_50, nl_51, nl_52, nl_53, nl_54, nl_55, nl_56, nl_57, nl_58, nl_59, nl_60, nl_61, nl_62, nl_64, nl_65, nl_66, nl_67, nl_68, nl_69, nl_92, nl_97, nl_99, nl_100, nl_122, nl_127, nl_128, nl_131, nl_132, nl_150, nl_200, nl_255, nl_256, nl_300, nl_342, nl_380, nl_381, nl_400, nl_401, nl_420, nl_500, nl_600, nl_800, nl_999, nl_1000, nl_1023, nl_1024, nl_1200, nl_2048, nl_2100, nl_4096, nl_9999, nl_10000, nl_10240, nl_999999, nl_1000000, if_pos, if_neg, f1, f2, s_hX, q104_34, q104_51, hb, bx_one, bx_or]
  · show mj_den mj_P E (d + 1) 104 4 _ _ _ = _
    rw [q104_4, h0, if_pos (Int32.le_refl _), q104_57]
end MJ43
theorem wv_pn_one (f t : Nat → Nat) (d : Nat) : ∀ p, (∀ i, i < p → t i < 31) → iv_pin f t d p = nI (wv_pn f t (2 ^ d) p) := by
  intro p
  induction p with
  | zero => intro _; rfl
  | succ p ih =>
    intro h
    show (if f p = d then iv_pin f t d p ||| ((1 : Int32) <<< (nI (t p) &&& 31)) else iv_pin f t d p) = _
    rw [ih (fun i hi => h i (by omega)), bx_one _ (h p (by omega)), bx_or]
    show _ = nI (if (2 ^ d).testBit (f p) = true then wv_pn f t (2 ^ d) p ||| 2 ^ (t p) else wv_pn f t (2 ^ d) p)
    rw [Nat.testBit_two_pow]
    by_cases he : f p = d
    · rw [if_pos he, if_pos (decide_eq_true he.symm)]
    · rw [if_neg he, if_neg (fun z => he (of_decide_eq_true z).symm)]
theorem wv_pn_bit (f t : Nat → Nat) (s j : Nat) : ∀ p, (wv_pn f t s p).testBit j = true ↔ ∃ i, i < p ∧ s.testBit (f i) = true ∧ t i = j := by
  intro p
  induction p with
  | zero => simp [wv_pn]
  | succ p ih =>
    unfold wv_pn
    by_cases h : s.testBit (f p) = true
    · rw [if_pos h, Nat.testBit_or, Bool.or_eq_true, ih, Nat.testBit_two_pow]
      constructor
      · rintro (⟨i, h1, h2, h3⟩ | h2)
        · exact ⟨i, by omega, h2, h3⟩
        · exact ⟨p, by omega, h, of_decide_eq_true h2⟩
      · rintro ⟨i, h1, h2, h3⟩
        by_cases hip : i = p
        · subst hip; exact Or.inr (decide_eq_true h3)
        · exact Or.inl ⟨i, by omega, h2, h3⟩
    · rw [if_neg h, ih]
      constructor
      · rintro ⟨i, h1, h2, h3⟩; exact ⟨i, by omega, h2, h3⟩
      · rintro ⟨i, h1, h2, h3⟩
        by_cases hip : i = p
        · subst hip; exact absurd h2 h
        · exact ⟨i, by omega, h2, h3⟩
theorem wv_pn_lt {f t : Nat → Nat} {s p : Nat} (h : ∀ i, i < p → t i < 10) : wv_pn f t s p < 1024 := by
  refine Nat.lt_pow_two_of_testBit (n := 10) _ (fun j hj => ?_)
  cases hb : (wv_pn f t s p).testBit j with
  | false => rfl
  | true =>
    obtain ⟨i, h1, _, h3⟩ := (wv_pn_bit f t s j p).mp hb
    have := h i h1; omega
theorem wv_wd_congr {y : Nat → Nat} {x x' : Nat → Int32} {s m : Nat} (hy : ∀ i, i < s → 1 ≤ y i) (h : ∀ i, i < s → x i = x' i) : wv_wd y x s m = wv_wd y x' s m := by
  unfold wv_wd
  by_cases hz : s = 0
  · rw [if_pos hz, if_pos hz]
  · rw [if_neg hz, if_neg hz]
    have hW : 1 ≤ wv_ws y s := by
      have : ∀ k, 1 ≤ k → k ≤ s → 1 ≤ wv_ws y k := by
        intro k
        induction k with
        | zero => intro h; omega
        | succ k ih => intro _ h; rw [wv_ws_s]; have := hy k (by omega); omega
      exact this s (by omega) (Nat.le_refl _)
    have hr : m % wv_ws y s < wv_ws y s := Nat.mod_lt _ (by omega)
    apply h
    have := wv_wk_lt (y := y) (L := m % wv_ws y s) s 0 (by simpa using hr) (by simp [wv_ws])
    omega
theorem iv_Jp {n l : Nat} {h m : mj_HI} (q : iv_J n l h m) : iv_ILaw (iv_wC 1 h) m ∧ iv_ISay (iv_wC 1 h) m ∧ iv_IPin n (iv_wC 1 h) m ∧ iv_ISale n l (iv_wC 1 h) m := ⟨q.1.2.2.2.2.2.2.1, q.1.2.2.2.2.2.2.2.1, q.1.2.2.2.2.2.2.2.2.1, q.1.2.2.2.2.2.2.2.2.2.1⟩
/-- what a speech holds, on both sides -/
theorem iv_say {n l : Nat} {h m : mj_HI} (q : iv_J n l h m) : ∃ (s : Nat) (y : Nat → Nat), s ≤ 16 ∧ h 22 0 = nI s ∧ m 205 36 = nI s ∧ (∀ i, i < s → 1 ≤ y i ∧ y i ≤ 60 ∧ h 25 i = nI (y i)) ∧ (∀ i, i < s → 1 ≤ y i ∧ y i ≤ 60 ∧ m 224 (2 * i + 1) = nI (y i)) ∧ (∀ k, wv_wd y (h 24) s k = wv_wd y (fun k => m 224 (2 * k)) s k) := by
  obtain ⟨s, h1, h2, h3, h4⟩ := (iv_Jp q).2.1
  have hex : ∃ y : Nat → Nat, ∀ i, i < s → 1 ≤ y i ∧ y i ≤ 60 ∧ h 25 i = nI (y i) ∧ m 224 (2 * i + 1) = nI (y i) :=
    ⟨fun i => (h 25 i).toNatClampNeg, fun i hi => by
      obtain ⟨_, y, y1, y2, y3, y4⟩ := h4 i hi
      have e : h 25 i = nI y := y3
      have e2 : (h 25 i).toNatClampNeg = y := by rw [e]; exact mj_nIc (by omega)
      show 1 ≤ (h 25 i).toNatClampNeg ∧ (h 25 i).toNatClampNeg ≤ 60 ∧ h 25 i = nI (h 25 i).toNatClampNeg ∧ m 224 (2 * i + 1) = nI (h 25 i).toNatClampNeg
      rw [e2]; exact ⟨y1, y2, e, y4⟩⟩
  obtain ⟨y, hy⟩ := hex
  exact ⟨s, y, h1, h2, h3, fun i hi => ⟨(hy i hi).1, (hy i hi).2.1, (hy i hi).2.2.1⟩, fun i hi => ⟨(hy i hi).1, (hy i hi).2.1, (hy i hi).2.2.2⟩, fun k => wv_wd_congr (fun i hi => (hy i hi).1) (fun i hi => (h4 i hi).1)⟩
theorem cs_word (a : Int32) : mj_Cs 122 235 [.int a] := by
  intro E d w c hi hl hE hw hI
  obtain ⟨n, l, q⟩ := iv_I_un.mp hI
  obtain ⟨s, y, s1, s2, s3, s4, s5, s6⟩ := iv_say q
  by_cases h : 0 ≤ a ∧ a ≤ nI 199
  · obtain ⟨k, hk, rfl⟩ := mj_ofn h.1
    have hk2 : k ≤ 199 := by have := h.2; rw [mj_nIle hk (by omega)] at this; exact this
    refine ⟨wv_wd y (hi 24) s k, w, c, hi, hl, mj_u hi 205 0 0, ?_, ?_, iv_told q, hw⟩
    · have e := s_wordX (E := E) (d := d + 98) (w := w) (c := c) (hl := hl) (m := k) s1 (by omega) s2 s4
      simp (disch := omega) only [q122_0, q122_7, q122_18, q122_21, q122_22, e122, s_within, ↓reduceIte, Bool.false_eq_true, eq_self, mj_10, mj_01, mj_n10, mj_0n1, mj_1n1, mj_n11, mj_bi_some, mj_bv_some, mj_bj_some, mj_br_some, mj_r0, mj_r1, mj_q0, mj_q1, mj_b01, mj_q2, if_true, if_false, mj_it, mj_if, true_and, and_true, false_and, and_false, not_true_eq_false, not_false_eq_true, true_or, or_true, false_or, or_false, mj_nIle, mj_nIlt, mj_nIeq, mj_nI0, mj_nIc, mj_nIadd, mj_nIs, mj_ez, mj_ze, mj_eo, mj_ltz, mj_lez, mj_zlt, mj_olt, mj_lto, mj_leo, mj_ole, mj_nIn, mj_nnI, nl_2, nl_3, nl_4, nl_5, nl_6, nl_7, nl_8, nl_9, nl_10, nl_11, nl_12, nl_13, nl_14, nl_15, nl_16, nl_17, nl_18, nl_19, nl_20, nl_21, nl_22, nl_23, nl_24, nl_25, nl_26, nl_27, nl_28, nl_29, nl_30, nl_32, nl_33, nl_34, nl_35, nl_36, nl_37, nl_38, nl_39, nl_40, nl_41, nl_42, nl_43, nl_44, nl_45, nl_46, nl_47, nl_48, nl_49, nl_50, nl_51, nl_52, nl_53, nl_54, nl_55, nl_56, nl_57, nl_58, nl_59, nl_60, nl_61, nl_62, nl_64, nl_65, nl_66, nl_67, nl_68, nl_69, nl_92, nl_97, nl_99, nl_100, nl_122, nl_127, nl_128, nl_131, nl_132, nl_150, nl_200, nl_255, nl_256, nl_300, nl_342, nl_380, nl_381, nl_400, nl_401, nl_420, nl_500, nl_600, nl_800, nl_999, nl_1000, nl_1023, nl_1024, nl_1200, nl_2048, nl_2100, nl_4096, nl_9999, nl_10000, nl_10240, nl_999999, nl_1000000, if_pos, if_neg, h, e, show (199 : Int32) = nI 199 from rfl]
    · have e := s_wordM (E := E) (d := d + 98) (w := w) (c := c) (hi := mj_u hi 205 0 0) (hl := hl) (m := k) s1 (by omega) (by rw [mj_u_pt (by omega)]; exact s3) (fun i hi' => by rw [mj_u_pt (by omega)]; exact s5 i hi')
      simp (disch := omega) only [q235_0, q235_14, q235_22, q235_25, q235_26, e235, s_isIn, ↓reduceIte, Bool.false_eq_true, eq_self, mj_10, mj_01, mj_n10, mj_0n1, mj_1n1, mj_n11, mj_bi_some, mj_bv_some, mj_bj_some, mj_br_some, mj_r0, mj_r1, mj_q0, mj_q1, mj_b01, mj_q2, if_true, if_false, mj_it, mj_if, true_and, and_true, false_and, and_false, not_true_eq_false, not_false_eq_true, true_or, or_true, false_or, or_false, mj_nIle, mj_nIlt, mj_nIeq, mj_nI0, mj_nIc, mj_nIadd, mj_nIs, mj_ez, mj_ze, mj_eo, mj_ltz, mj_lez, mj_zlt, mj_olt, mj_lto, mj_leo, mj_ole, mj_nIn, mj_nnI, nl_2, nl_3, nl_4, nl_5, nl_6, nl_7, nl_8, nl_9, nl_10, nl_11, nl_12, nl_13, nl_14, nl_15, nl_16, nl_17, nl_18, nl_19, nl_20, nl_21, nl_22, nl_23, nl_24, nl_25, nl_26, nl_27, nl_28, nl_29, nl_30, nl_32, nl_33, nl_34, nl_35, nl_36, nl_37, nl_38, nl_39, nl_40, nl_41, nl_42, nl_43, nl_44, nl_45, nl_46, nl_47, nl_48, nl_49, nl_50, nl_51, nl_52, nl_53, nl_54, nl_55, nl_56, nl_57, nl_58, nl_59, nl_60, nl_61, nl_62, nl_64, nl_65, nl_66, nl_67, nl_68, nl_69, nl_92, nl_97, nl_99, nl_100, nl_122, nl_127, nl_128, nl_131, nl_132, nl_150, nl_200, nl_255, nl_256, nl_300, nl_342, nl_380, nl_381, nl_400, nl_401, nl_420, nl_500, nl_600, nl_800, nl_999, nl_1000, nl_1023, nl_1024, nl_1200, nl_2048, nl_2100, nl_4096, nl_9999, nl_10000, nl_10240, nl_999999, nl_1000000, if_pos, if_neg, h, e, show (199 : Int32) = nI 199 from rfl, mj_u_pt, s6]
  · refine ⟨-1, w, c, hi, hl, mj_u hi 205 0 0, ?_, ?_, iv_told q, hw⟩
    · simp (disch := omega) only [q122_0, q122_7, q122_18, q122_21, q122_22, e122, s_within, ↓reduceIte, Bool.false_eq_true, eq_self, mj_10, mj_01, mj_n10, mj_0n1, mj_1n1, mj_n11, mj_bi_some, mj_bv_some, mj_bj_some, mj_br_some, mj_r0, mj_r1, mj_q0, mj_q1, mj_b01, mj_q2, if_true, if_false, mj_it, mj_if, true_and, and_true, false_and, and_false, not_true_eq_false, not_false_eq_true, true_or, or_true, false_or, or_false, mj_nIle, mj_nIlt, mj_nIeq, mj_nI0, mj_nIc, mj_nIadd, mj_nIs, mj_ez, mj_ze, mj_eo, mj_ltz, mj_lez, mj_zlt, mj_olt, mj_lto, mj_leo, mj_ole, mj_nIn, mj_nnI, nl_2, nl_3, nl_4, nl_5, nl_6, nl_7, nl_8, nl_9, nl_10, nl_11, nl_12, nl_13, nl_14, nl_15, nl_16, nl_17, nl_18, nl_19, nl_20, nl_21, nl_22, nl_23, nl_24, nl_25, nl_26, nl_27, nl_28, nl_29, nl_30, nl_32, nl_33, nl_34, nl_35, nl_36, nl_37, nl_38, nl_39, nl_40, nl_41, nl_42, nl_43, nl_44, nl_45, nl_46, nl_47, nl_48, nl_49, nl_50, nl_51, nl_52, nl_53, nl_54, nl_55, nl_56, nl_57, nl_58, nl_59, nl_60, nl_61, nl_62, nl_64, nl_65, nl_66, nl_67, nl_68, nl_69, nl_92, nl_97, nl_99, nl_100, nl_122, nl_127, nl_128, nl_131, nl_132, nl_150, nl_200, nl_255, nl_256, nl_300, nl_342, nl_380, nl_381, nl_400, nl_401, nl_420, nl_500, nl_600, nl_800, nl_999, nl_1000, nl_1023, nl_1024, nl_1200, nl_2048, nl_2100, nl_4096, nl_9999, nl_10000, nl_10240, nl_999999, nl_1000000, if_pos, if_neg, h, show (199 : Int32) = nI 199 from rfl]
    · simp (disch := omega) only [q235_0, q235_14, q235_22, q235_25, q235_26, e235, s_isIn, ↓reduceIte, Bool.false_eq_true, eq_self, mj_10, mj_01, mj_n10, mj_0n1, mj_1n1, mj_n11, mj_bi_some, mj_bv_some, mj_bj_some, mj_br_some, mj_r0, mj_r1, mj_q0, mj_q1, mj_b01, mj_q2, if_true, if_false, mj_it, mj_if, true_and, and_true, false_and, and_false, not_true_eq_false, not_false_eq_true, true_or, or_true, false_or, or_false, mj_nIle, mj_nIlt, mj_nIeq, mj_nI0, mj_nIc, mj_nIadd, mj_nIs, mj_ez, mj_ze, mj_eo, mj_ltz, mj_lez, mj_zlt, mj_olt, mj_lto, mj_leo, mj_ole, mj_nIn, mj_nnI, nl_2, nl_3, nl_4, nl_5, nl_6, nl_7, nl_8, nl_9, nl_10, nl_11, nl_12, nl_13, nl_14, nl_15, nl_16, nl_17, nl_18, nl_19, nl_20, nl_21, nl_22, nl_23, nl_24, nl_25, nl_26, nl_27, nl_28, nl_29, nl_30, nl_32, nl_33, nl_34, nl_35, nl_36, nl_37, nl_38, nl_39, nl_40, nl_41, nl_42, nl_43, nl_44, nl_45, nl_46, nl_47, nl_48, nl_49, nl_50, nl_51, nl_52, nl_53, nl_54, nl_55, nl_56, nl_57, nl_58, nl_59, nl_60, nl_61, nl_62, nl_64, nl_65, nl_66, nl_67, nl_68, nl_69, nl_92, nl_97, nl_99, nl_100, nl_122, nl_127, nl_128, nl_131, nl_132, nl_150, nl_200, nl_255, nl_256, nl_300, nl_342, nl_380, nl_381, nl_400, nl_401, nl_420, nl_500, nl_600, nl_800, nl_999, nl_1000, nl_1023, nl_1024, nl_1200, nl_2048, nl_2100, nl_4096, nl_9999, nl_10000, nl_10240, nl_999999, nl_1000000, if_pos, if_neg, h, show (199 : Int32) = nI 199 from rfl]
