section MJ89z
variable {E : mj_E} {d w c : Nat} {hi : mj_HI} {hl : Nat → Nat → Int64}
theorem mj_pc_s (n s : Nat) : mj_pc (n + 1) s = mj_pc n s + (if s.testBit n = true then 1 else 0) := rfl
theorem s_gather {T : Nat} (hT : T < 1024) : ∃ g : mj_HI, mj_dc mj_P E (d + 2) 28 [.ref 194, .int (nI T)] (mj_hw w c hi hl) = some (none, mj_hw w c g hl) ∧ g 194 0 = nI (mj_pc 10 T) ∧ (∀ e, e < 10 → T.testBit e = true → g 196 (mj_pc e T) = nI e) ∧ ∀ a k, a ≠ 196 → ¬ (a = 194 ∧ k = 0) → g a k = hi a k := by
  have key := lp_ex (fun k (h : mj_HI) => mj_den mj_P E (d + 1) 28 7 [.ref 194, .int (nI T), .int (nI k)] [] (mj_hw w c h hl)) (fun k h => h 194 0 = nI (mj_pc k T) ∧ (∀ e, e < k → T.testBit e = true → h 196 (mj_pc e T) = nI e) ∧ ∀ a k, a ≠ 196 → ¬ (a = 194 ∧ k = 0) → h a k = hi a k) 10 (fun k h hk hI => ?_) (mj_u hi 194 0 0) ⟨mj_u_eq, fun e he => absurd he (by omega), fun a k h1 h2 => mj_u_pt (by omega)⟩
  · obtain ⟨g, e, i1, i2, i3⟩ := key
    have e' : mj_den mj_P E (d + 1) 28 7 [.ref 194, .int (nI T), .int 0] [] (mj_hw w c (mj_u hi 194 0 0) hl) = mj_den mj_P E (d + 1) 28 7 [.ref 194, .int (nI T), .int (nI 10)] [] (mj_hw w c g hl) := e
    refine ⟨g, ?_, i1, i2, i3⟩
    rw [e28, q28_0, e', q28_7, nl_10, if_pos (Int32.le_refl _), q28_47]
  · obtain ⟨i1, i2, i3⟩ := hI
    have hp := iv_cnt_bd (fun i => T.testBit i) k
    have hp : mj_pc k T ≤ k := hp
    have n10 : ¬ 10 ≤ k := by omega
    by_cases hb : T.testBit k = true
    · refine ⟨mj_u (mj_u h 196 (mj_pc k T) (nI k)) 194 0 (nI (mj_pc k T + 1)), ?_, ?_, fun e he hTe => ?_, fun a j h1 h2 => ?_⟩
      · show mj_den mj_P E (d + 1) 28 7 [.ref 194, .int (nI T), .int (nI k)] [] (mj_hw w c h hl) = mj_den mj_P E (d + 1) 28 7 [.ref 194, .int (nI T), .int (nI (k + 1))] [] (mj_hw w c (mj_u (mj_u h 196 (mj_pc k T) (nI k)) 194 0 (nI (mj_pc k T + 1))) hl)
        rw [q28_7]
        simp (disch := omega) only [q28_18, q28_41, ↓reduceIte, Bool.false_eq_true, eq_self, mj_10, mj_01, mj_n10, mj_0n1, mj_1n1, mj_n11, mj_bi_some, mj_bv_some, mj_bj_some, mj_br_some, mj_r0, mj_r1, mj_q0, mj_q1, mj_b01, mj_q2, if_true, if_false, mj_it, mj_if, true_and, and_true, false_and, and_false, not_true_eq_false, not_false_eq_true, true_or, or_true, false_or, or_false, mj_nIle, mj_nIlt, mj_nIeq, mj_nI0, mj_nIc, mj_nIadd, mj_nIs, mj_ez, mj_ze, mj_eo, mj_ltz, mj_lez, mj_zlt, mj_olt, mj_lto, mj_leo, mj_ole, mj_nIn, mj_nnI, nl_2, nl_3, nl_4, nl_5, nl_6, nl_7, nl_8, nl_9, nl_10, nl_11, nl_12, nl_13, nl_14, nl_15, nl_16, nl_17, nl_18, nl_19, nl_20, nl_21, nl_22, nl_23, nl_24, nl_25, nl_26, nl_27, nl_28, nl_29, nl_30, nl_32, nl_33, nl_34, nl_35, nl_36, nl_37, nl_38, nl_39, nl_40, nl_41, nl_42, nl_43, nl_44, nl_45, nl_46, nl_47, nl_48, nl_49, nl_50, nl_51, nl_52, nl_53, nl_54, nl_55, nl_56, nl_57, nl_58, nl_59, nl_60, nl_61, nl_62, nl_64, nl_65, nl_66, nl_67, nl_68, nl_69, nl_92, nl_97, nl_99, nl_100, nl_122, nl_127, nl_128, nl_131, nl_132, nl_150, nl_200, nl_255, nl_256, nl_300, nl_342, nl_380, nl_381, nl_400, nl_401, nl_420, nl_500, nl_600, nl_800, nl_999, nl_1000, nl_1023, nl_1024, nl_1200, nl_2048, nl_2100, nl_4096, nl_9999, nl_10000, nl_10240, nl_999999, nl_1000000, if_pos, if_neg, s_hX, hb, n10, i1]
      · rw [mj_u_eq, mj_pc_s, if_pos hb]
      · rw [mj_u_pt (by omega)]
        by_cases hek : e = k
        · subst hek; rw [mj_u_eq]
        · have : mj_pc e T < mj_pc k T := wm_inj (p := fun i => T.testBit i) hTe (by omega)
          rw [mj_u_pt (by omega)]; exact i2 e (by omega) hTe
      · rw [mj_u_pt (by omega), mj_u_pt (by omega)]; exact i3 a j h1 h2
    · refine ⟨h, ?_, ?_, fun e he hTe => ?_, i3⟩
      · show mj_den mj_P E (d + 1) 28 7 [.ref 194, .int (nI T), .int (nI k)] [] (mj_hw w c h hl) = mj_den mj_P E (d + 1) 28 7 [.ref 194, .int (nI T), .int (nI (k + 1))] [] (mj_hw w c h hl)
        rw [q28_7]
        simp (disch := omega) only [q28_18, q28_41, ↓reduceIte, Bool.false_eq_true, eq_self, mj_10, mj_01, mj_n10, mj_0n1, mj_1n1, mj_n11, mj_bi_some, mj_bv_some, mj_bj_some, mj_br_some, mj_r0, mj_r1, mj_q0, mj_q1, mj_b01, mj_q2, if_true, if_false, mj_it, mj_if, true_and, and_true, false_and, and_false, not_true_eq_false, not_false_eq_true, true_or, or_true, false_or, or_false, mj_nIle, mj_nIlt, mj_nIeq, mj_nI0, mj_nIc, mj_nIadd, mj_nIs, mj_ez, mj_ze, mj_eo, mj_ltz, mj_lez, mj_zlt, mj_olt, mj_lto, mj_leo, mj_ole, mj_nIn, mj_nnI, nl_2, nl_3, nl_4, nl_5, nl_6, nl_7, nl_8, nl_9, nl_10, nl_11, nl_12, nl_13, nl_14, nl_15, nl_16, nl_17, nl_18, nl_19, nl_20, nl_21, nl_22, nl_23, nl_24, nl_25, nl_26, nl_27, nl_28, nl_29, nl_30, nl_32, nl_33, nl_34, nl_35, nl_36, nl_37, nl_38, nl_39, nl_40, nl_41, nl_42, nl_43, nl_44, nl_45, nl_46, nl_47, nl_48, nl_49, nl_50, nl_51, nl_52, nl_53, nl_54, nl_55, nl_56, nl_57, nl_58, nl_59, nl_60, nl_61, nl_62, nl_64, nl_65, nl_66, nl_67, nl_68, nl_69, nl_92, nl_97, nl_99, nl_100, nl_122, nl_127, nl_128, nl_131, nl_132, nl_150, nl_200, nl_255, nl_256, nl_300, nl_342, nl_380, nl_381, nl_400, nl_401, nl_420, nl_500, nl_600, nl_800, nl_999, nl_1000, nl_1023, nl_1024, nl_1200, nl_2048, nl_2100, nl_4096, nl_9999, nl_10000, nl_10240, nl_999999, nl_1000000, if_pos, if_neg, s_hX, hb, n10, i1]
      · rw [mj_pc_s, if_neg hb]; exact i1
      · by_cases hek : e = k
        · subst hek; exact absurd hTe hb
        · exact i2 e (by omega) hTe
theorem mj_pc_cut {T e : Nat} (he : e ≤ 12) : mj_pc 12 (T &&& (2 ^ e - 1)) = mj_pc e T := iv_cnt_cut (p := fun i => T.testBit i) 12 he (fun i _ => by
  show (T &&& (2 ^ e - 1)).testBit i = _
  rw [Nat.testBit_and, Nat.testBit_two_pow_sub_one])
theorem s_place {T e : Nat} (hT : T < 4096) (he : e ≤ 12) : mj_dc mj_P E (d + 2) 29 [.int (nI T), .int (nI e)] (mj_hw w c hi hl) = some (some (.int (nI (mj_pc e T))), mj_hw w c hi hl) := by
  have h1 : (1 : Int32) <<< (nI e &&& 31) - 1 = nI (2 ^ e - 1) := by rw [bx_one e (by omega), mj_nIp (Nat.two_pow_pos e)]
  have h2 : T &&& (2 ^ e - 1) < 4096 := Nat.lt_of_le_of_lt Nat.and_le_left hT
  rw [e29, q29_0, h1, bx_and, s_bc h2, mj_bi_some, q29_10, mj_pc_cut he]
/-- of whom is told -/
def wt (a b : Nat → Nat) : Nat → Nat
  | 0 => 0
  | j + 1 => wt a b j ||| (2 ^ a j ||| 2 ^ b j)
theorem wt_s (a b : Nat → Nat) (j : Nat) : wt a b (j + 1) = wt a b j ||| (2 ^ a j ||| 2 ^ b j) := rfl
theorem wt_bit (a b : Nat → Nat) (x : Nat) : ∀ j, (wt a b j).testBit x = true ↔ ∃ i, i < j ∧ (a i = x ∨ b i = x) := by
  intro j
  induction j with
  | zero => exact ⟨fun h => (by rw [show wt a b 0 = 0 from rfl, Nat.zero_testBit] at h; cases h), fun ⟨i, hi, _⟩ => absurd hi (by omega)⟩
  | succ j ih =>
    rw [wt_s, Nat.testBit_or, Nat.testBit_or, Nat.testBit_two_pow, Nat.testBit_two_pow, Bool.or_eq_true, Bool.or_eq_true, ih, decide_eq_true_iff, decide_eq_true_iff]
    constructor
    · rintro (⟨i, h1, h2⟩ | h | h)
      · exact ⟨i, by omega, h2⟩
      · exact ⟨j, by omega, Or.inl h⟩
      · exact ⟨j, by omega, Or.inr h⟩
    · rintro ⟨i, h1, h2⟩
      by_cases hij : i = j
      · subst hij; exact Or.inr h2
      · exact Or.inl ⟨i, by omega, h2⟩
theorem wt_lt {a b : Nat → Nat} : ∀ j, (∀ i, i < j → a i < 10 ∧ b i < 10) → wt a b j < 1024 := by
  intro j
  induction j with
  | zero => intro _; show 0 < 1024; omega
  | succ j ih =>
    intro h
    rw [wt_s]
    have := h j (by omega)
    exact Nat.or_lt_two_pow (n := 10) (ih (fun i hi => h i (by omega))) (Nat.or_lt_two_pow (n := 10) (Nat.pow_lt_pow_right (by omega) this.1) (Nat.pow_lt_pow_right (by omega) this.2))
theorem s_learnS {t : Nat} {a b : Nat → Nat} (ht : t ≤ 16) (h0 : hi 34 0 = nI t) (hab : ∀ i, i < t → hi 35 i = nI (a i) ∧ hi 36 i = nI (b i) ∧ a i < 10 ∧ b i < 10) : ∃ g : mj_HI, mj_dc mj_P E (d + 3) 35 [.ref 194, .ref 34] (mj_hw w c hi hl) = some (some (.int (nI t)), mj_hw w c g hl) ∧ g 194 0 = nI (mj_pc 10 (wt a b t)) ∧ (∀ e, e < 10 → (wt a b t).testBit e = true → g 196 (mj_pc e (wt a b t)) = nI e) ∧ (∀ i, i < t → g 199 i = nI (mj_pc (a i) (wt a b t)) ∧ g 200 i = nI (mj_pc (b i) (wt a b t))) ∧ ∀ x k, x ≠ 194 → x ≠ 196 → x ≠ 199 → x ≠ 200 → g x k = hi x k := by
  have hT := wt_lt (a := a) (b := b) t (fun i hi => (hab i hi).2.2)
  have l1 := lp_up (fun j => mj_den mj_P E (d + 2) 35 15 [.ref 194, .ref 34, .int (nI t), .int (nI (wt a b j)), .int (nI j)] [] (mj_hw w c hi hl)) t (fun j hj => by
    show mj_den mj_P E (d + 2) 35 15 [.ref 194, .ref 34, .int (nI t), .int (nI (wt a b j)), .int (nI j)] [] (mj_hw w c hi hl) = mj_den mj_P E (d + 2) 35 15 [.ref 194, .ref 34, .int (nI t), .int (nI (wt a b (j + 1))), .int (nI (j + 1))] [] (mj_hw w c hi hl)
    obtain ⟨h1, h2, h3, h4⟩ := hab j hj
    have nj : ¬ t ≤ j := by omega
    rw [q35_15, wt_s]
    simp (disch := omega) only [↓reduceIte, Bool.false_eq_true, eq_self, mj_10, mj_01, mj_n10, mj_0n1, mj_1n1, mj_n11, mj_bi_some, mj_bv_some, mj_bj_some, mj_br_some, mj_r0, mj_r1, mj_q0, mj_q1, mj_b01, mj_q2, if_true, if_false, mj_it, mj_if, true_and, and_true, false_and, and_false, not_true_eq_false, not_false_eq_true, true_or, or_true, false_or, or_false, mj_nIle, mj_nIlt, mj_nIeq, mj_nI0, mj_nIc, mj_nIadd, mj_nIs, mj_ez, mj_ze, mj_eo, mj_ltz, mj_lez, mj_zlt, mj_olt, mj_lto, mj_leo, mj_ole, mj_nIn, mj_nnI, nl_2, nl_3, nl_4, nl_5, nl_6, nl_7, nl_8, nl_9, nl_10, nl_11, nl_12, nl_13, nl_14, nl_15, nl_16, nl_17, nl_18, nl_19, nl_20, nl_21, nl_22, nl_23, nl_24, nl_25, nl_26, nl_27, nl_28, nl_29, nl_30, nl_32, nl_33, nl_34, nl_35, nl_36, nl_37, nl_38, nl_39, nl_40, nl_41, nl_42, nl_43, nl_44, nl_45, nl_46, nl_47, nl_48, nl_49, nl_50, nl_51, nl_52, nl_53, nl_54, nl_55, nl_56, nl_57, nl_58, nl_59, nl_60, nl_61, nl_62, nl_64, nl_65, nl_66, nl_67, nl_68, nl_69, nl_92, nl_97, nl_99, nl_100, nl_122, nl_127, nl_128, nl_131, nl_132, nl_150, nl_200, nl_255, nl_256, nl_300, nl_342, nl_380, nl_381, nl_400, nl_401, nl_420, nl_500, nl_600, nl_800, nl_999, nl_1000, nl_1023, nl_1024, nl_1200, nl_2048, nl_2100, nl_4096, nl_9999, nl_10000, nl_10240, nl_999999, nl_1000000, if_pos, if_neg, h1, h2, nj, bx_one, bx_or])
  have l1' : mj_den mj_P E (d + 2) 35 15 [.ref 194, .ref 34, .int (nI t), .int 0, .int 0] [] (mj_hw w c hi hl) = mj_den mj_P E (d + 2) 35 15 [.ref 194, .ref 34, .int (nI t), .int (nI (wt a b t)), .int (nI t)] [] (mj_hw w c hi hl) := l1
  obtain ⟨g1, eg, g0, g1', g2⟩ := s_gather (E := E) (d := d) (w := w) (c := c) (hi := hi) (hl := hl) hT
  generalize wt a b t = T at hT l1' eg g0 g1'
  have key := lp_ex (fun j (h : mj_HI) => mj_den mj_P E (d + 2) 35 57 [.ref 194, .ref 34, .int (nI t), .int (nI T), .int (nI j)] [] (mj_hw w c h hl)) (fun j h => (∀ i, i < j → h 199 i = nI (mj_pc (a i) T) ∧ h 200 i = nI (mj_pc (b i) T)) ∧ ∀ x k, x ≠ 199 → x ≠ 200 → h x k = g1 x k) t (fun j h hj hI => ?_) g1 ⟨fun i hi => absurd hi (by omega), fun _ _ _ _ => rfl⟩
  · obtain ⟨g, e, i1, i2⟩ := key
    have e' : mj_den mj_P E (d + 2) 35 57 [.ref 194, .ref 34, .int (nI t), .int (nI T), .int 0] [] (mj_hw w c g1 hl) = mj_den mj_P E (d + 2) 35 57 [.ref 194, .ref 34, .int (nI t), .int (nI T), .int (nI t)] [] (mj_hw w c g hl) := e
    have n16 : ¬ nI 16 < nI t := by rw [mj_nIlt (by omega) (by omega)]; omega
    refine ⟨g, ?_, by rw [i2 _ _ (by omega) (by omega)]; exact g0, fun e he hb => by rw [i2 _ _ (by omega) (by omega)]; exact g1' e he hb, i1, fun x k h1 h2 h3 h4 => by rw [i2 _ _ h3 h4]; exact g2 _ _ h2 (by omega)⟩
    rw [e35, q35_0, h0, nl_16, s_min2, if_neg n16, mj_bi_some, q35_9, l1', q35_15, if_pos (Int32.le_refl _), q35_49, eg, mj_bv_some, q35_54, e', q35_57, if_pos (Int32.le_refl _), q35_105]
  · obtain ⟨i1, i2⟩ := hI
    obtain ⟨h1, h2, h3, h4⟩ := hab j hj
    have k1 : h 35 j = nI (a j) := by rw [i2 _ _ (by omega) (by omega), g2 _ _ (by omega) (by omega)]; exact h1
    have k2 : h 36 j = nI (b j) := by rw [i2 _ _ (by omega) (by omega), g2 _ _ (by omega) (by omega)]; exact h2
    have nj : ¬ t ≤ j := by omega
    refine ⟨mj_u (mj_u h 199 j (nI (mj_pc (a j) T))) 200 j (nI (mj_pc (b j) T)), ?_, fun i hi => ?_, fun x k x1 x2 => by rw [mj_u_pt (by omega), mj_u_pt (by omega)]; exact i2 x k x1 x2⟩
    · show mj_den mj_P E (d + 2) 35 57 [.ref 194, .ref 34, .int (nI t), .int (nI T), .int (nI j)] [] (mj_hw w c h hl) = mj_den mj_P E (d + 2) 35 57 [.ref 194, .ref 34, .int (nI t), .int (nI T), .int (nI (j + 1))] [] (mj_hw w c (mj_u (mj_u h 199 j (nI (mj_pc (a j) T))) 200 j (nI (mj_pc (b j) T))) hl)
      rw [q35_57]
      simp (disch := omega) only [↓reduceIte, Bool.false_eq_true, eq_self, mj_10, mj_01, mj_n10, mj_0n1, mj_1n1, mj_n11, mj_bi_some, mj_bv_some, mj_bj_some, mj_br_some, mj_r0, mj_r1, mj_q0, mj_q1, mj_b01, mj_q2, if_true, if_false, mj_it, mj_if, true_and, and_true, false_and, and_false, not_true_eq_false, not_false_eq_true, true_or, or_true, false_or, or_false, mj_nIle, mj_nIlt, mj_nIeq, mj_nI0, mj_nIc, mj_nIadd, mj_nIs, mj_ez, mj_ze, mj_eo, mj_ltz, mj_lez, mj_zlt, mj_olt, mj_lto, mj_leo, mj_ole, mj_nIn, mj_nnI, nl_2, nl_3, nl_4, nl_5, nl_6, nl_7, nl_8, nl_9, nl_10, nl_11, nl_12, nl_13, nl_14, nl_15, nl_16, nl_17, nl_18, nl_19, nl_20, nl_21, nl_22, nl_23, nl_24, nl_25, nl_26, nl_27, nl_28, nl_29, nl_30, nl_32, nl_33, nl_34, nl_35, nl_36, nl_37, nl_38, nl_39, nl_40, nl_41, nl_42, nl_43, nl_44, nl_45, nl_46, nl_47, nl_48, nl_49, nl_50, nl_51, nl_52, nl_53, nl_54, nl_55, nl_56, nl_57, nl_58, nl_59, nl_60, nl_61, nl_62, nl_64, nl_65, nl_66, nl_67, nl_68, nl_69, nl_92, nl_97, nl_99, nl_100, nl_122, nl_127, nl_128, nl_131, nl_132, nl_150, nl_200, nl_255, nl_256, nl_300, nl_342, nl_380, nl_381, nl_400, nl_401, nl_420, nl_500, nl_600, nl_800, nl_999, nl_1000, nl_1023, nl_1024, nl_1200, nl_2048, nl_2100, nl_4096, nl_9999, nl_10000, nl_10240, nl_999999, nl_1000000, if_pos, if_neg, k1, k2, nj, s_place, q35_80, q35_98]
    · by_cases hij : i = j
      · subst hij; rw [mj_u_pt (by omega), mj_u_eq, mj_u_eq]; exact ⟨rfl, rfl⟩
      · rw [mj_u_pt (by omega), mj_u_pt (by omega), mj_u_pt (by omega)]; exact i1 i (by omega)
theorem s_against {t n s : Nat} {wn ls : Nat → Nat} (ht : t ≤ 16) (hn : n ≤ 10) (hs : s < 1024) (h0 : hi 194 0 = nI n) (hw : ∀ i, i < t → hi 199 i = nI (wn i) ∧ hi 200 i = nI (ls i) ∧ wn i < 10 ∧ ls i < n) : ∃ g : mj_HI, mj_dc mj_P E (d + 2) 36 [.ref 194, .int (nI t), .int (nI s)] (mj_hw w c hi hl) = some (none, mj_hw w c g hl) ∧ (∀ k, k < n → g 197 k = nI (iv_cnt (fun i => decide (ls i = k ∧ ¬ s.testBit (wn i) = true)) t)) ∧ ∀ x k, x ≠ 197 → g x k = hi x k := by
  have key1 := lp_ex (fun j (h : mj_HI) => mj_den mj_P E (d + 1) 36 2 [.ref 194, .int (nI t), .int (nI s), .int (nI j)] [] (mj_hw w c h hl)) (fun j h => (∀ k, k < j → h 197 k = 0) ∧ ∀ x k, x ≠ 197 → h x k = hi x k) n (fun j h hj hI => ?_) hi ⟨fun k hk => absurd hk (by omega), fun _ _ _ => rfl⟩
  · obtain ⟨g1, e1, a1, a2⟩ := key1
    have e1' : mj_den mj_P E (d + 1) 36 2 [.ref 194, .int (nI t), .int (nI s), .int 0] [] (mj_hw w c hi hl) = mj_den mj_P E (d + 1) 36 2 [.ref 194, .int (nI t), .int (nI s), .int (nI n)] [] (mj_hw w c g1 hl) := e1
    have key2 := lp_ex (fun j (h : mj_HI) => mj_den mj_P E (d + 1) 36 25 [.ref 194, .int (nI t), .int (nI s), .int (nI j)] [] (mj_hw w c h hl)) (fun j h => (∀ k, k < n → h 197 k = nI (iv_cnt (fun i => decide (ls i = k ∧ ¬ s.testBit (wn i) = true)) j)) ∧ ∀ x k, x ≠ 197 → h x k = hi x k) t (fun j h hj hI => ?_) g1 ⟨fun k hk => a1 k hk, a2⟩
    · obtain ⟨g, e2, b1, b2⟩ := key2
      have e2' : mj_den mj_P E (d + 1) 36 25 [.ref 194, .int (nI t), .int (nI s), .int 0] [] (mj_hw w c g1 hl) = mj_den mj_P E (d + 1) 36 25 [.ref 194, .int (nI t), .int (nI s), .int (nI t)] [] (mj_hw w c g hl) := e2
      refine ⟨g, ?_, b1, b2⟩
      have g0 : g1 194 0 = nI n := by rw [a2 _ _ (by omega)]; exact h0
      rw [e36, q36_0, e1', q36_2, g0, if_pos (Int32.le_refl _), q36_23, e2', q36_25, if_pos (Int32.le_refl _), q36_75]
    · obtain ⟨b1, b2⟩ := hI
      obtain ⟨h1, h2, h3, h4⟩ := hw j hj
      have k1 : h 199 j = nI (wn j) := by rw [b2 _ _ (by omega)]; exact h1
      have k2 : h 200 j = nI (ls j) := by rw [b2 _ _ (by omega)]; exact h2
      have nj : ¬ t ≤ j := by omega
      have nl : ¬ 10 ≤ ls j := by omega
      by_cases hb : s.testBit (wn j) = true
      · refine ⟨h, ?_, fun k hk => ?_, b2⟩
        · show mj_den mj_P E (d + 1) 36 25 [.ref 194, .int (nI t), .int (nI s), .int (nI j)] [] (mj_hw w c h hl) = mj_den mj_P E (d + 1) 36 25 [.ref 194, .int (nI t), .int (nI s), .int (nI (j + 1))] [] (mj_hw w c h hl)
          rw [q36_25]
          simp (disch := omega) only [↓reduceIte, Bool.false_eq_true, eq_self, mj_10, mj_01, mj_n10, mj_0n1, mj_1n1, mj_n11, mj_bi_some, mj_bv_some, mj_bj_some, mj_br_some, mj_r0, mj_r1, mj_q0, mj_q1, mj_b01, mj_q2, if_true, if_false, mj_it, mj_if, true_and, and_true, false_and, and_false, not_true_eq_false, not_false_eq_true, true_or, or_true, false_or, or_false, mj_nIle, mj_nIlt, mj_nIeq, mj_nI0, mj_nIc, mj_nIadd, mj_nIs, mj_ez, mj_ze, mj_eo, mj_ltz, mj_lez, mj_zlt, mj_olt, mj_lto, mj_leo, mj_ole, mj_nIn, mj_nnI, nl_2, nl_3, nl_4, nl_5, nl_6, nl_7, nl_8, nl_9, nl_10, nl_11, nl_12, nl_13, nl_14, nl_15, nl_16, nl_17, nl_18, nl_19, nl_20, nl_21, nl_22, nl_23, nl_24, nl_25, nl_26, nl_27, nl_28, nl_29, nl_30, nl_32, nl_33, nl_34, nl_35, nl_36, nl_37, nl_38, nl_39, nl_40, nl_41, nl_42, nl_43, nl_44, nl_45, nl_46, nl_47, nl_48, nl_49, nl_50, nl_51, nl_52, nl_53, nl_54, nl_55, nl_56, nl_57, nl_58, nl_59, nl_60, nl_61, nl_62, nl_64, nl_65, nl_66, nl_67, nl_68, nl_69, nl_92, nl_97, nl_99, nl_100, nl_122, nl_127, nl_128, nl_131, nl_132, nl_150, nl_200, nl_255, nl_256, nl_300, nl_342, nl_380, nl_381, nl_400, nl_401, nl_420, nl_500, nl_600, nl_800, nl_999, nl_1000, nl_1023, nl_1024, nl_1200, nl_2048, nl_2100, nl_4096, nl_9999, nl_10000, nl_10240, nl_999999, nl_1000000, if_pos, if_neg, k1, s_hX, hb, nj, q36_40, q36_69]
        · rw [iv_cnt_s, if_neg (fun z => (of_decide_eq_true z).2 hb)]; exact b1 k hk
      · have b1l := b1 (ls j) h4
        refine ⟨mj_u h 197 (ls j) (nI (iv_cnt (fun i => decide (ls i = ls j ∧ ¬ s.testBit (wn i) = true)) j + 1)), ?_, fun k hk => ?_, fun x k hx => by rw [mj_u_pt (by omega)]; exact b2 x k hx⟩
        · show mj_den mj_P E (d + 1) 36 25 [.ref 194, .int (nI t), .int (nI s), .int (nI j)] [] (mj_hw w c h hl) = mj_den mj_P E (d + 1) 36 25 [.ref 194, .int (nI t), .int (nI s), .int (nI (j + 1))] [] (mj_hw w c (mj_u h 197 (ls j) (nI (iv_cnt (fun i => decide (ls i = ls j ∧ ¬ s.testBit (wn i) = true)) j + 1))) hl)
          rw [q36_25]
          simp (disch := omega) only [↓reduceIte, Bool.false_eq_true, eq_self, mj_10, mj_01, mj_n10, mj_0n1, mj_1n1, mj_n11, mj_bi_some, mj_bv_some, mj_bj_some, mj_br_some, mj_r0, mj_r1, mj_q0, mj_q1, mj_b01, mj_q2, if_true, if_false, mj_it, mj_if, true_and, and_true, false_and, and_false, not_true_eq_false, not_false_eq_true, true_or, or_true, false_or, or_false, mj_nIle, mj_nIlt, mj_nIeq, mj_nI0, mj_nIc, mj_nIadd, mj_nIs, mj_ez, mj_ze, mj_eo, mj_ltz, mj_lez, mj_zlt, mj_olt, mj_lto, mj_leo, mj_ole, mj_nIn, mj_nnI, nl_2, nl_3, nl_4, nl_5, nl_6, nl_7, nl_8, nl_9, nl_10, nl_11, nl_12, nl_13, nl_14, nl_15, nl_16, nl_17, nl_18, nl_19, nl_20, nl_21, nl_22, nl_23, nl_24, nl_25, nl_26, nl_27, nl_28, nl_29, nl_30, nl_32, nl_33, nl_34, nl_35, nl_36, nl_37, nl_38, nl_39, nl_40, nl_41, nl_42, nl_43, nl_44, nl_45, nl_46, nl_47, nl_48, nl_49, nl_50, nl_51, nl_52, nl_53, nl_54, nl_55, nl_56, nl_57, nl_58, nl_59, nl_60, nl_61, nl_62, nl_64, nl_65, nl_66, nl_67, nl_68, nl_69, nl_92, nl_97, nl_99, nl_100, nl_122, nl_127, nl_128, nl_131, nl_132, nl_150, nl_200, nl_255, nl_256, nl_300, nl_342, nl_380, nl_381, nl_400, nl_401, nl_420, nl_500, nl_600, nl_800, nl_999, nl_1000, nl_1023, nl_1024, nl_1200, nl_2048, nl_2100, nl_4096, nl_9999, nl_10000, nl_10240, nl_999999, nl_1000000, if_pos, if_neg, k1, k2, s_hX, hb, nj, nl, q36_40, q36_69, b1l]
        · rw [iv_cnt_s]
          by_cases hk2 : ls j = k
          · subst hk2; rw [mj_u_eq, if_pos (decide_eq_true ⟨rfl, hb⟩)]
          · rw [mj_u_pt (by omega), if_neg (fun z => hk2 (of_decide_eq_true z).1)]; exact b1 k hk
  · obtain ⟨a1, a2⟩ := hI
    have g0 : h 194 0 = nI n := by rw [a2 _ _ (by omega)]; exact h0
    have nj : ¬ n ≤ j := by omega
    refine ⟨mj_u h 197 j 0, ?_, fun k hk => ?_, fun x k hx => by rw [mj_u_pt (by omega)]; exact a2 x k hx⟩
    · show mj_den mj_P E (d + 1) 36 2 [.ref 194, .int (nI t), .int (nI s), .int (nI j)] [] (mj_hw w c h hl) = mj_den mj_P E (d + 1) 36 2 [.ref 194, .int (nI t), .int (nI s), .int (nI (j + 1))] [] (mj_hw w c (mj_u h 197 j 0) hl)
      rw [q36_2]
      simp (disch := omega) only [↓reduceIte, Bool.false_eq_true, eq_self, mj_10, mj_01, mj_n10, mj_0n1, mj_1n1, mj_n11, mj_bi_some, mj_bv_some, mj_bj_some, mj_br_some, mj_r0, mj_r1, mj_q0, mj_q1, mj_b01, mj_q2, if_true, if_false, mj_it, mj_if, true_and, and_true, false_and, and_false, not_true_eq_false, not_false_eq_true, true_or, or_true, false_or, or_false, mj_nIle, mj_nIlt, mj_nIeq, mj_nI0, mj_nIc, mj_nIadd, mj_nIs, mj_ez, mj_ze, mj_eo, mj_ltz, mj_lez, mj_zlt, mj_olt, mj_lto, mj_leo, mj_ole, mj_nIn, mj_nnI, nl_2, nl_3, nl_4, nl_5, nl_6, nl_7, nl_8, nl_9, nl_10, nl_11, nl_12, nl_13, nl_14, nl_15, nl_16, nl_17, nl_18, nl_19, nl_20, nl_21, nl_22, nl_23, nl_24, nl_25, nl_26, nl_27, nl_28, nl_29, nl_30, nl_32, nl_33, nl_34, nl_35, nl_36, nl_37, nl_38, nl_39, nl_40, nl_41, nl_42, nl_43, nl_44, nl_45, nl_46, nl_47, nl_48, nl_49, nl_50, nl_51, nl_52, nl_53, nl_54, nl_55, nl_56, nl_57, nl_58, nl_59, nl_60, nl_61, nl_62, nl_64, nl_65, nl_66, nl_67, nl_68, nl_69, nl_92, nl_97, nl_99, nl_100, nl_122, nl_127, nl_128, nl_131, nl_132, nl_150, nl_200, nl_255, nl_256, nl_300, nl_342, nl_380, nl_381, nl_400, nl_401, nl_420, nl_500, nl_600, nl_800, nl_999, nl_1000, nl_1023, nl_1024, nl_1200, nl_2048, nl_2100, nl_4096, nl_9999, nl_10000, nl_10240, nl_999999, nl_1000000, if_pos, if_neg, g0, nj]
    · by_cases hkj : k = j
      · subst hkj; exact mj_u_eq
      · rw [mj_u_pt (by omega)]; exact a1 k (by omega)
theorem s_bestRank {n s : Nat} {g : Nat → Nat} (hn : n ≤ 10) (hs : s < 2 ^ n) (h0 : hi 194 0 = nI n) (hg : ∀ k, k < n → s.testBit k = false → hi 197 k + hi 201 (s ||| 2 ^ k) = nI (g k) ∧ g k ≤ 30000) : mj_dc mj_P E (d + 2) 37 [.ref 194, .int (nI s)] (mj_hw w c hi hl) = some (some (.int (wz_io (wz_ix g s n))), mj_hw w c hi hl) := by
  have h1024 : 2 ^ n ≤ 1024 := Nat.pow_le_pow_right (n := 2) (by omega) hn
  rw [xg37, g37_0]
  have key := lp_ex (fun k (q : Int32 × Value) => mj_den mj_P E (d + 1) 37 7 [.ref 194, .int (nI s), .int (wz_io (wz_ix g s k)), .int q.1, .int (nI k), q.2] [] (mj_hw w c hi hl)) (fun k q => ∀ i, wz_ix g s k = some i → q.1 = nI (g i)) n (fun k q hk hI => ?_) (0, .float 0) (fun i h => by cases h)
  · obtain ⟨⟨v5, u7⟩, e, _⟩ := key
    refine Eq.trans e ?_
    show mj_den mj_P E (d + 1) 37 7 [.ref 194, .int (nI s), .int (wz_io (wz_ix g s n)), .int v5, .int (nI n), u7] [] (mj_hw w c hi hl) = _
    rw [g37_7, h0, if_pos (Int32.le_refl _), g37_69]
  · obtain ⟨v5, u7⟩ := q
    simp only at hI
    show ∃ q' : Int32 × Value, mj_den mj_P E (d + 1) 37 7 [.ref 194, .int (nI s), .int (wz_io (wz_ix g s k)), .int v5, .int (nI k), u7] [] (mj_hw w c hi hl) = mj_den mj_P E (d + 1) 37 7 [.ref 194, .int (nI s), .int (wz_io (wz_ix g s (k + 1))), .int q'.1, .int (nI (k + 1)), q'.2] [] (mj_hw w c hi hl) ∧ _
    have nk : ¬ n ≤ k := by omega
    by_cases hbk : s.testBit k = true
    · refine ⟨(v5, u7), ?_, ?_⟩
      · rw [wz_ix_t hbk, g37_7, h0]
        simp (disch := omega) only [↓reduceIte, Bool.false_eq_true, eq_self, mj_10, mj_01, mj_n10, mj_0n1, mj_1n1, mj_n11, mj_bi_some, mj_bv_some, mj_bj_some, mj_br_some, mj_r0, mj_r1, mj_q0, mj_q1, mj_b01, mj_q2, if_true, if_false, mj_it, mj_if, true_and, and_true, false_and, and_false, not_true_eq_false, not_false_eq_true, true_or, or_true, false_or, or_false, mj_nIle, mj_nIlt, mj_nIeq, mj_nI0, mj_nIc, mj_nIadd, mj_nIs, mj_ez, mj_ze, mj_eo, mj_ltz, mj_lez, mj_zlt, mj_olt, mj_lto, mj_leo, mj_ole, mj_nIn, mj_nnI, nl_2, nl_3, nl_4, nl_5, nl_6, nl_7, nl_8, nl_9, nl_10, nl_11, nl_12, nl_13, nl_14, nl_15, nl_16, nl_17, nl_18, nl_19, nl_20, nl_21, nl_22, nl_23, nl_24, nl_25, nl_26, nl_27, nl_28, nl_29, nl_30, nl_32, nl_33, nl_34, nl_35, nl_36, nl_37, nl_38, nl_39, nl_40, nl_41, nl_42, nl_43, nl_44, nl_45, nl_46, nl_47, nl_48, nl_49, nl_50, nl_51, nl_52, nl_53, nl_54, nl_55, nl_56, nl_57, nl_58, nl_59, nl_60, nl_61, nl_62, nl_64, nl_65, nl_66, nl_67, nl_68, nl_69, nl_92, nl_97, nl_99, nl_100, nl_122, nl_127, nl_128, nl_131, nl_132, nl_150, nl_200, nl_255, nl_256, nl_300, nl_342, nl_380, nl_381, nl_400, nl_401, nl_420, nl_500, nl_600, nl_800, nl_999, nl_1000, nl_1023, nl_1024, nl_1200, nl_2048, nl_2100, nl_4096, nl_9999, nl_10000, nl_10240, nl_999999, nl_1000000, if_pos, if_neg, s_hX, hbk, nk, g37_22, g37_63]
      · rw [wz_ix_t hbk]; exact hI
    · have hbk2 : s.testBit k = false := by simpa using hbk
      obtain ⟨b1, b2⟩ := hg k hk hbk2
      have hlt : s ||| 2 ^ k < 2 ^ n := Nat.or_lt_two_pow hs (Nat.pow_lt_pow_right (by omega) hk)
      cases hw : wz_ix g s k with
      | none =>
        refine ⟨(nI (g k), .int (nI (g k))), ?_, ?_⟩
        · rw [wz_ix_n hbk hw, g37_7, h0]
          simp (disch := omega) only [↓reduceIte, Bool.false_eq_true, eq_self, mj_10, mj_01, mj_n10, mj_0n1, mj_1n1, mj_n11, mj_bi_some, mj_bv_some, mj_bj_some, mj_br_some, mj_r0, mj_r1, mj_q0, mj_q1, mj_b01, mj_q2, if_true, if_false, mj_it, mj_if, true_and, and_true, false_and, and_false, not_true_eq_false, not_false_eq_true, true_or, or_true, false_or, or_false, mj_nIle, mj_nIlt, mj_nIeq, mj_nI0, mj_nIc, mj_nIadd, mj_nIs, mj_ez, mj_ze, mj_eo, mj_ltz, mj_lez, mj_zlt, mj_olt, mj_lto, mj_leo, mj_ole, mj_nIn, mj_nnI, nl_2, nl_3, nl_4, nl_5, nl_6, nl_7, nl_8, nl_9, nl_10, nl_11, nl_12, nl_13, nl_14, nl_15, nl_16, nl_17, nl_18, nl_19, nl_20, nl_21, nl_22, nl_23, nl_24, nl_25, nl_26, nl_27, nl_28, nl_29, nl_30, nl_32, nl_33, nl_34, nl_35, nl_36, nl_37, nl_38, nl_39, nl_40, nl_41, nl_42, nl_43, nl_44, nl_45, nl_46, nl_47, nl_48, nl_49, nl_50, nl_51, nl_52, nl_53, nl_54, nl_55, nl_56, nl_57, nl_58, nl_59, nl_60, nl_61, nl_62, nl_64, nl_65, nl_66, nl_67, nl_68, nl_69, nl_92, nl_97, nl_99, nl_100, nl_122, nl_127, nl_128, nl_131, nl_132, nl_150, nl_200, nl_255, nl_256, nl_300, nl_342, nl_380, nl_381, nl_400, nl_401, nl_420, nl_500, nl_600, nl_800, nl_999, nl_1000, nl_1023, nl_1024, nl_1200, nl_2048, nl_2100, nl_4096, nl_9999, nl_10000, nl_10240, nl_999999, nl_1000000, if_pos, if_neg, s_hX, hbk, nk, g37_22, bx_one, bx_or, b1, g37_57, g37_63, wz_io]
        · rw [wz_ix_n hbk hw]; intro i h; cases h; rfl
      | some j =>
        have hv := hI j hw
        obtain ⟨j1, j2, _, _⟩ := (wz_ix_ok _ s k).2 j hw
        have gj := (hg j (by omega) j2).2
        rw [hv]
        by_cases hlt2 : g k < g j
        · have nle : ¬ g j ≤ g k := by omega
          refine ⟨(nI (g k), .int (nI (g k))), ?_, ?_⟩
          · rw [wz_ix_s hbk hw, if_pos hlt2, g37_7, h0]
            simp (disch := omega) only [↓reduceIte, Bool.false_eq_true, eq_self, mj_10, mj_01, mj_n10, mj_0n1, mj_1n1, mj_n11, mj_bi_some, mj_bv_some, mj_bj_some, mj_br_some, mj_r0, mj_r1, mj_q0, mj_q1, mj_b01, mj_q2, if_true, if_false, mj_it, mj_if, true_and, and_true, false_and, and_false, not_true_eq_false, not_false_eq_true, true_or, or_true, false_or, or_false, mj_nIle, mj_nIlt, mj_nIeq, mj_nI0, mj_nIc, mj_nIadd, mj_nIs, mj_ez, mj_ze, mj_eo, mj_ltz, mj_lez, mj_zlt, mj_olt, mj_lto, mj_leo, mj_ole, mj_nIn, mj_nnI, nl_2, nl_3, nl_4, nl_5, nl_6, nl_7, nl_8, nl_9, nl_10, nl_11, nl_12, nl_13, nl_14, nl_15, nl_16, nl_17, nl_18, nl_19, nl_20, nl_21, nl_22, nl_23, nl_24, nl_25, nl_26, nl_27, nl_28, nl_29, nl_30, nl_32, nl_33, nl_34, nl_35, nl_36, nl_37, nl_38, nl_39, nl_40, nl_41, nl_42, nl_43, nl_44, nl_45, nl_46, nl_47, nl_48, nl_49, nl_50, nl_51, nl_52, nl_53, nl_54, nl_55, nl_56, nl_57, nl_58, nl_59, nl_60, nl_61, nl_62, nl_64, nl_65, nl_66, nl_67, nl_68, nl_69, nl_92, nl_97, nl_99, nl_100, nl_122, nl_127, nl_128, nl_131, nl_132, nl_150, nl_200, nl_255, nl_256, nl_300, nl_342, nl_380, nl_381, nl_400, nl_401, nl_420, nl_500, nl_600, nl_800, nl_999, nl_1000, nl_1023, nl_1024, nl_1200, nl_2048, nl_2100, nl_4096, nl_9999, nl_10000, nl_10240, nl_999999, nl_1000000, if_pos, if_neg, s_hX, hbk, nk, g37_22, bx_one, bx_or, b1, g37_57, g37_63, wz_io, nle]
          · rw [wz_ix_s hbk hw, if_pos hlt2]; intro i h; cases h; rfl
        · have nle : g j ≤ g k := by omega
          refine ⟨(nI (g j), .int (nI (g k))), ?_, ?_⟩
          · rw [wz_ix_s hbk hw, if_neg hlt2, g37_7, h0]
            simp (disch := omega) only [↓reduceIte, Bool.false_eq_true, eq_self, mj_10, mj_01, mj_n10, mj_0n1, mj_1n1, mj_n11, mj_bi_some, mj_bv_some, mj_bj_some, mj_br_some, mj_r0, mj_r1, mj_q0, mj_q1, mj_b01, mj_q2, if_true, if_false, mj_it, mj_if, true_and, and_true, false_and, and_false, not_true_eq_false, not_false_eq_true, true_or, or_true, false_or, or_false, mj_nIle, mj_nIlt, mj_nIeq, mj_nI0, mj_nIc, mj_nIadd, mj_nIs, mj_ez, mj_ze, mj_eo, mj_ltz, mj_lez, mj_zlt, mj_olt, mj_lto, mj_leo, mj_ole, mj_nIn, mj_nnI, nl_2, nl_3, nl_4, nl_5, nl_6, nl_7, nl_8, nl_9, nl_10, nl_11, nl_12, nl_13, nl_14, nl_15, nl_16, nl_17, nl_18, nl_19, nl_20, nl_21, nl_22, nl_23, nl_24, nl_25, nl_26, nl_27, nl_28, nl_29, nl_30, nl_32, nl_33, nl_34, nl_35, nl_36, nl_37, nl_38, nl_39, nl_40, nl_41, nl_42, nl_43, nl_44, nl_45, nl_46, nl_47, nl_48, nl_49, nl_50, nl_51, nl_52, nl_53, nl_54, nl_55, nl_56, nl_57, nl_58, nl_59, nl_60, nl_61, nl_62, nl_64, nl_65, nl_66, nl_67, nl_68, nl_69, nl_92, nl_97, nl_99, nl_100, nl_122, nl_127, nl_128, nl_131, nl_132, nl_150, nl_200, nl_255, nl_256, nl_300, nl_342, nl_380, nl_381, nl_400, nl_401, nl_420, nl_500, nl_600, nl_800, nl_999, nl_1000, nl_1023, nl_1024, nl_1200, nl_2048, nl_2100, nl_4096, nl_9999, nl_10000, nl_10240, nl_999999, nl_1000000, if_pos, if_neg, s_hX, hbk, nk, g37_22, bx_one, bx_or, b1, g37_57, g37_63, wz_io, nle]
          · rw [wz_ix_s hbk hw, if_neg hlt2]; intro i h; cases h; rfl
end MJ89z
