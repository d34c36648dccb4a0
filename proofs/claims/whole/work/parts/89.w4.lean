theorem mj_pc1210 {T : Nat} (hT : T < 1024) : mj_pc 12 T = mj_pc 10 T := by
  have h10 : T.testBit 10 = false := Nat.testBit_lt_two_pow hT
  have h11 : T.testBit 11 = false := Nat.testBit_lt_two_pow (Nat.lt_trans hT (by decide))
  rw [mj_pc_s, mj_pc_s, h10, h11]; rfl
theorem mj_df_0 {s T : Nat} : mj_df s T = 0 ↔ ∀ i, s.testBit i = true → T.testBit i = true := by
  constructor
  · intro h i hi
    have h2 : (mj_df s T).testBit i = false := by rw [h]; exact Nat.zero_testBit i
    rw [mj_df_bit, hi, Bool.true_and] at h2
    simpa using h2
  · intro h
    refine Nat.eq_of_testBit_eq (fun i => ?_)
    rw [mj_df_bit, Nat.zero_testBit]
    cases hs : s.testBit i with
    | false => rfl
    | true => rw [h i hs]; rfl
theorem mj_sub_le {s T : Nat} (h : ∀ i, s.testBit i = true → T.testBit i = true) : s ≤ T := by
  have : s &&& T = s := Nat.eq_of_testBit_eq (fun i => by
    rw [Nat.testBit_and]
    cases hs : s.testBit i with
    | false => rfl
    | true => rw [h i hs]; rfl)
  rw [← this]; exact Nat.and_le_right
theorem mj_sub_or {s T x : Nat} (h : ∀ i, s.testBit i = true → T.testBit i = true) (hx : T.testBit x = true) : ∀ i, (s ||| 2 ^ x).testBit i = true → T.testBit i = true := fun i hi => by
  rw [wz_or_bit] at hi
  by_cases hxi : x = i
  · rw [← hxi]; exact hx
  · rw [decide_eq_false hxi, Bool.or_false] at hi; exact h i hi
theorem iv_cnt_pos {p : Nat → Bool} {n : Nat} : 0 < iv_cnt p n ↔ ∃ i, i < n ∧ p i = true := by
  constructor
  · intro h
    obtain ⟨i, h1, h2, _⟩ := iv_cnt_kth h
    exact ⟨i, h1, h2⟩
  · rintro ⟨i, h1, h2⟩
    have := wm_inj h2 h1
    omega
/-- of whom is told, by the table -/
def ws (N : Nat → Nat) : Nat → Nat
  | 0 => 0
  | k + 1 => if N k = 0 then ws N k else (ws N k ||| 2 ^ (k / 10)) ||| 2 ^ (k % 10)
theorem ws_bit (N : Nat → Nat) (x : Nat) : ∀ k, (ws N k).testBit x = true ↔ ∃ i, i < k ∧ N i ≠ 0 ∧ (i / 10 = x ∨ i % 10 = x) := by
  intro k
  induction k with
  | zero => exact ⟨fun h => (by rw [show ws N 0 = 0 from rfl, Nat.zero_testBit] at h; cases h), fun ⟨i, hi, _⟩ => absurd hi (by omega)⟩
  | succ k ih =>
    by_cases hz : N k = 0
    · rw [show ws N (k + 1) = ws N k from if_pos hz, ih]
      constructor
      · rintro ⟨i, h1, h2⟩; exact ⟨i, by omega, h2⟩
      · rintro ⟨i, h1, h2, h3⟩
        by_cases hik : i = k
        · subst hik; exact absurd hz h2
        · exact ⟨i, by omega, h2, h3⟩
    · rw [show ws N (k + 1) = (ws N k ||| 2 ^ (k / 10)) ||| 2 ^ (k % 10) from if_neg hz, wz_or_bit, wz_or_bit, Bool.or_eq_true, Bool.or_eq_true, ih, decide_eq_true_iff, decide_eq_true_iff]
      constructor
      · rintro ((⟨i, h1, h2⟩ | h) | h)
        · exact ⟨i, by omega, h2⟩
        · exact ⟨k, by omega, hz, Or.inl h⟩
        · exact ⟨k, by omega, hz, Or.inr h⟩
      · rintro ⟨i, h1, h2, h3⟩
        by_cases hik : i = k
        · subst hik
          rcases h3 with h3 | h3
          · exact Or.inl (Or.inr h3)
          · exact Or.inr h3
        · exact Or.inl (Or.inl ⟨i, by omega, h2, h3⟩)
theorem ws_wt {a b : Nat → Nat} {t : Nat} (hab : ∀ i, i < t → a i < 10 ∧ b i < 10) : ws (fun k => iv_cnt (fun i => decide (a i = k / 10 ∧ b i = k % 10)) t) 100 = wt a b t := by
  refine Nat.eq_of_testBit_eq (fun x => Bool.eq_iff_iff.mpr ?_)
  rw [ws_bit, wt_bit]
  constructor
  · rintro ⟨k, h1, h2, h3⟩
    obtain ⟨i, i1, i2⟩ := iv_cnt_pos.mp (Nat.pos_of_ne_zero h2)
    have := of_decide_eq_true i2
    refine ⟨i, i1, ?_⟩
    omega
  · rintro ⟨i, h1, h2⟩
    obtain ⟨ha, hb⟩ := hab i h1
    have e1 : (10 * a i + b i) / 10 = a i := by omega
    have e2 : (10 * a i + b i) % 10 = b i := by omega
    refine ⟨10 * a i + b i, by omega, ?_, by rw [e1, e2]; exact h2⟩
    have : 0 < iv_cnt (fun j => decide (a j = (10 * a i + b i) / 10 ∧ b j = (10 * a i + b i) % 10)) t := iv_cnt_pos.mpr ⟨i, h1, by rw [e1, e2]; exact decide_eq_true ⟨rfl, rfl⟩⟩
    omega
theorem ws_lt (N : Nat → Nat) : ∀ k, k ≤ 100 → ws N k < 1024 := by
  intro k
  induction k with
  | zero => intro _; show 0 < 1024; omega
  | succ k ih =>
    intro hk
    by_cases hz : N k = 0
    · rw [show ws N (k + 1) = ws N k from if_pos hz]; exact ih (by omega)
    · rw [show ws N (k + 1) = (ws N k ||| 2 ^ (k / 10)) ||| 2 ^ (k % 10) from if_neg hz]
      exact Nat.or_lt_two_pow (n := 10) (Nat.or_lt_two_pow (n := 10) (ih (by omega)) (Nat.pow_lt_pow_right (by omega) (by omega))) (Nat.pow_lt_pow_right (by omega) (by omega))
/-- how often those of B outlasted x -/
def wsum (a b : Nat → Nat) (t B x : Nat) : Nat → Nat
  | 0 => 0
  | o + 1 => wsum a b t B x o + (if B.testBit o = true then iv_cnt (fun i => decide (a i = o ∧ b i = x)) t else 0)
theorem wsum_eq (a b : Nat → Nat) (t B x : Nat) : ∀ m, wsum a b t B x m = iv_cnt (fun i => decide (b i = x ∧ a i < m ∧ B.testBit (a i) = true)) t := by
  intro m
  induction m with
  | zero => exact (iv_cnt_zero (fun i _ => decide_eq_false (fun z => absurd z.2.1 (by omega)))).symm
  | succ m ih =>
    show wsum a b t B x m + (if B.testBit m = true then iv_cnt (fun i => decide (a i = m ∧ b i = x)) t else 0) = _
    rw [ih]
    by_cases hb : B.testBit m = true
    · rw [if_pos hb]
      refine (iv_cnt_add t (fun i _ => ?_)).symm
      by_cases h1 : b i = x ∧ a i < m ∧ B.testBit (a i) = true
      · exact Or.inl ⟨decide_eq_true h1, decide_eq_false (fun z => by have := h1.2.1; omega), decide_eq_true ⟨h1.1, by have := h1.2.1; omega, h1.2.2⟩⟩
      · by_cases h2 : a i = m ∧ b i = x
        · exact Or.inr (Or.inl ⟨decide_eq_false h1, decide_eq_true h2, decide_eq_true ⟨h2.2, by omega, by rw [h2.1]; exact hb⟩⟩)
        · refine Or.inr (Or.inr ⟨decide_eq_false h1, decide_eq_false h2, decide_eq_false (fun z => ?_)⟩)
          by_cases h3 : a i = m
          · exact h2 ⟨h3, z.1⟩
          · exact h1 ⟨z.1, by have := z.2.1; omega, z.2.2⟩
    · rw [if_neg hb, Nat.add_zero]
      refine iv_cnt_congr t (fun i _ => decide_eq_decide.mpr ⟨fun z => ⟨z.1, by have := z.2.1; omega, z.2.2⟩, fun z => ⟨z.1, ?_, z.2.2⟩⟩)
      by_cases h3 : a i = m
      · exact absurd (by rw [← h3]; exact z.2.2) hb
      · have := z.2.1; omega
section MJ89x2
variable {E : mj_E} {d w c : Nat} {hi : mj_HI} {hl : Nat → Nat → Int64}
theorem s_seenSet {t : Nat} {a b : Nat → Nat} (ht : t ≤ 16) (hab : ∀ i, i < t → a i < 10 ∧ b i < 10) (h230 : ∀ x y, x < 10 → y < 10 → hi 230 (10 * x + y) = nI (iv_cnt (fun i => decide (a i = x ∧ b i = y)) t)) : mj_dc mj_P E (d + 1) 247 [.ref 205] (mj_hw w c hi hl) = some (some (.int (nI (wt a b t))), mj_hw w c hi hl) := by
  obtain ⟨N, hN⟩ : ∃ N : Nat → Nat, N = (fun k => iv_cnt (fun i => decide (a i = k / 10 ∧ b i = k % 10)) t) := ⟨_, rfl⟩
  have l1 := lp_up (fun k => mj_den mj_P E d 247 4 [.ref 205, .int (nI (ws N k)), .int (nI k)] [] (mj_hw w c hi hl)) 100 (fun k hk => by
    show mj_den mj_P E d 247 4 [.ref 205, .int (nI (ws N k)), .int (nI k)] [] (mj_hw w c hi hl) = mj_den mj_P E d 247 4 [.ref 205, .int (nI (ws N (k + 1))), .int (nI (k + 1))] [] (mj_hw w c hi hl)
    have hk2 : hi 230 k = nI (N k) := by
      rw [hN]
      have := h230 (k / 10) (k % 10) (by omega) (by omega)
      rw [show 10 * (k / 10) + k % 10 = k by omega] at this
      exact this
    have hb : N k ≤ 16 := by rw [hN]; exact Nat.le_trans (iv_cnt_bd _ t) ht
    have n100 : ¬ 100 ≤ k := by omega
    have t10 : ¬ nI 10 = (0 : Int32) := by decide
    have k1 : k / 10 < 10 := by omega
    have k2 : k % 10 < 10 := by omega
    rw [q247_4]
    by_cases hz : N k = 0
    · rw [show ws N (k + 1) = ws N k from if_pos hz]
      have hle : (nI 0 ≤ (0 : Int32)) = True := eq_true (by decide)
      rw [hz] at hk2
      simp (disch := omega) only [↓reduceIte, Bool.false_eq_true, eq_self, mj_10, mj_01, mj_n10, mj_0n1, mj_1n1, mj_n11, mj_bi_some, mj_bv_some, mj_bj_some, mj_br_some, mj_r0, mj_r1, mj_q0, mj_q1, mj_b01, mj_q2, if_true, if_false, mj_it, mj_if, true_and, and_true, false_and, and_false, not_true_eq_false, not_false_eq_true, true_or, or_true, false_or, or_false, mj_nIle, mj_nIlt, mj_nIeq, mj_nI0, mj_nIc, mj_nIadd, mj_nIs, mj_ez, mj_ze, mj_eo, mj_ltz, mj_lez, mj_zlt, mj_olt, mj_lto, mj_leo, mj_ole, mj_nIn, mj_nnI, nl_2, nl_3, nl_4, nl_5, nl_6, nl_7, nl_8, nl_9, nl_10, nl_11, nl_12, nl_13, nl_14, nl_15, nl_16, nl_17, nl_18, nl_19, nl_20, nl_21, nl_22, nl_23, nl_24, nl_25, nl_26, nl_27, nl_28, nl_29, nl_30, nl_32, nl_33, nl_34, nl_35, nl_36, nl_37, nl_38, nl_39, nl_40, nl_41, nl_42, nl_43, nl_44, nl_45, nl_46, nl_47, nl_48, nl_49, nl_50, nl_51, nl_52, nl_53, nl_54, nl_55, nl_56, nl_57, nl_58, nl_59, nl_60, nl_61, nl_62, nl_64, nl_65, nl_66, nl_67, nl_68, nl_69, nl_92, nl_97, nl_99, nl_100, nl_122, nl_127, nl_128, nl_131, nl_132, nl_150, nl_200, nl_255, nl_256, nl_300, nl_342, nl_380, nl_381, nl_400, nl_401, nl_420, nl_500, nl_600, nl_800, nl_999, nl_1000, nl_1023, nl_1024, nl_1200, nl_2048, nl_2100, nl_4096, nl_9999, nl_10000, nl_10240, nl_999999, nl_1000000, if_pos, if_neg, hk2, n100, q247_35, hle]
    · rw [show ws N (k + 1) = (ws N k ||| 2 ^ (k / 10)) ||| 2 ^ (k % 10) from if_neg hz]
      have hle : ¬ (nI (N k) ≤ (0 : Int32)) := by rw [show (0 : Int32) = nI 0 from rfl, mj_nIle (by omega) (by omega)]; omega
      simp (disch := omega) only [↓reduceIte, nl_100, nl_10, mj_nIle, mj_nI0, mj_nIc, mj_nIs, hk2, n100, hk, if_false, true_and, if_true, if_neg hle, if_neg t10, q247_35, mj_nIdiv, mj_nIrem, bx_one, bx_or])
  have l1' : mj_den mj_P E d 247 4 [.ref 205, .int 0, .int 0] [] (mj_hw w c hi hl) = mj_den mj_P E d 247 4 [.ref 205, .int (nI (ws N 100)), .int (nI 100)] [] (mj_hw w c hi hl) := l1
  rw [e247, q247_0, l1', q247_4, nl_100, if_pos (Int32.le_refl _), q247_41, hN, ws_wt hab]
theorem s_otherwise {t B x : Nat} {a b : Nat → Nat} (ht : t ≤ 16) (hB : B < 1024) (hx : x < 10) (h230 : ∀ x y, x < 10 → y < 10 → hi 230 (10 * x + y) = nI (iv_cnt (fun i => decide (a i = x ∧ b i = y)) t)) : mj_dc mj_P E (d + 2) 248 [.ref 205, .int (nI x), .int (nI B)] (mj_hw w c hi hl) = some (some (.int (nI (wsum a b t B x 10))), mj_hw w c hi hl) := by
  have l1 := lp_up (fun o => mj_den mj_P E (d + 1) 248 5 [.ref 205, .int (nI x), .int (nI B), .int (nI (wsum a b t B x o)), .int (nI o)] [] (mj_hw w c hi hl)) 10 (fun o ho => by
    show mj_den mj_P E (d + 1) 248 5 [.ref 205, .int (nI x), .int (nI B), .int (nI (wsum a b t B x o)), .int (nI o)] [] (mj_hw w c hi hl) = mj_den mj_P E (d + 1) 248 5 [.ref 205, .int (nI x), .int (nI B), .int (nI (wsum a b t B x (o + 1))), .int (nI (o + 1))] [] (mj_hw w c hi hl)
    have h1 := h230 o x ho hx
    have e10 : nI 10 * nI o = nI (10 * o) := mj_nImul 10 o
    have n10 : ¬ 10 ≤ o := by omega
    rw [q248_5, show wsum a b t B x (o + 1) = wsum a b t B x o + (if B.testBit o = true then iv_cnt (fun i => decide (a i = o ∧ b i = x)) t else 0) from rfl]
    by_cases hb : B.testBit o = true
    · simp (disch := omega) only [↓reduceIte, Bool.false_eq_true, eq_self, mj_10, mj_01, mj_n10, mj_0n1, mj_1n1, mj_n11, mj_bi_some, mj_bv_some, mj_bj_some, mj_br_some, mj_r0, mj_r1, mj_q0, mj_q1, mj_b01, mj_q2, if_true, if_false, mj_it, mj_if, true_and, and_true, false_and, and_false, not_true_eq_false, not_false_eq_true, true_or, or_true, false_or, or_false, mj_nIle, mj_nIlt, mj_nIeq, mj_nI0, mj_nIc, mj_nIadd, mj_nIs, mj_ez, mj_ze, mj_eo, mj_ltz, mj_lez, mj_zlt, mj_olt, mj_lto, mj_leo, mj_ole, mj_nIn, mj_nnI, nl_2, nl_3, nl_4, nl_5, nl_6, nl_7, nl_8, nl_9, nl_10, nl_11, nl_12, nl_13, nl_14, nl_15, nl_16, nl_17, nl_18, nl_19, nl_20, nl_21, nl_22, nl_23, nl_24, nl_25, nl_26, nl_27, nl_28, nl_29, nl_30, nl_32, nl_33, nl_34, nl_35, nl_36, nl_37, nl_38, nl_39, nl_40, nl_41, nl_42, nl_43, nl_44, nl_45, nl_46, nl_47, nl_48, nl_49, nl_50, nl_51, nl_52, nl_53, nl_54, nl_55, nl_56, nl_57, nl_58, nl_59, nl_60, nl_61, nl_62, nl_64, nl_65, nl_66, nl_67, nl_68, nl_69, nl_92, nl_97, nl_99, nl_100, nl_122, nl_127, nl_128, nl_131, nl_132, nl_150, nl_200, nl_255, nl_256, nl_300, nl_342, nl_380, nl_381, nl_400, nl_401, nl_420, nl_500, nl_600, nl_800, nl_999, nl_1000, nl_1023, nl_1024, nl_1200, nl_2048, nl_2100, nl_4096, nl_9999, nl_10000, nl_10240, nl_999999, nl_1000000, if_pos, if_neg, s_hM, hb, n10, q248_19, q248_37, e10, h1]
    · simp (disch := omega) only [↓reduceIte, Bool.false_eq_true, eq_self, mj_10, mj_01, mj_n10, mj_0n1, mj_1n1, mj_n11, mj_bi_some, mj_bv_some, mj_bj_some, mj_br_some, mj_r0, mj_r1, mj_q0, mj_q1, mj_b01, mj_q2, if_true, if_false, mj_it, mj_if, true_and, and_true, false_and, and_false, not_true_eq_false, not_false_eq_true, true_or, or_true, false_or, or_false, mj_nIle, mj_nIlt, mj_nIeq, mj_nI0, mj_nIc, mj_nIadd, mj_nIs, mj_ez, mj_ze, mj_eo, mj_ltz, mj_lez, mj_zlt, mj_olt, mj_lto, mj_leo, mj_ole, mj_nIn, mj_nnI, nl_2, nl_3, nl_4, nl_5, nl_6, nl_7, nl_8, nl_9, nl_10, nl_11, nl_12, nl_13, nl_14, nl_15, nl_16, nl_17, nl_18, nl_19, nl_20, nl_21, nl_22, nl_23, nl_24, nl_25, nl_26, nl_27, nl_28, nl_29, nl_30, nl_32, nl_33, nl_34, nl_35, nl_36, nl_37, nl_38, nl_39, nl_40, nl_41, nl_42, nl_43, nl_44, nl_45, nl_46, nl_47, nl_48, nl_49, nl_50, nl_51, nl_52, nl_53, nl_54, nl_55, nl_56, nl_57, nl_58, nl_59, nl_60, nl_61, nl_62, nl_64, nl_65, nl_66, nl_67, nl_68, nl_69, nl_92, nl_97, nl_99, nl_100, nl_122, nl_127, nl_128, nl_131, nl_132, nl_150, nl_200, nl_255, nl_256, nl_300, nl_342, nl_380, nl_381, nl_400, nl_401, nl_420, nl_500, nl_600, nl_800, nl_999, nl_1000, nl_1023, nl_1024, nl_1200, nl_2048, nl_2100, nl_4096, nl_9999, nl_10000, nl_10240, nl_999999, nl_1000000, if_pos, if_neg, s_hM, hb, n10, q248_19, q248_37, Nat.add_zero])
  have l1' : mj_den mj_P E (d + 1) 248 5 [.ref 205, .int (nI x), .int (nI B), .int 0, .int 0] [] (mj_hw w c hi hl) = mj_den mj_P E (d + 1) 248 5 [.ref 205, .int (nI x), .int (nI B), .int (nI (wsum a b t B x 10)), .int (nI 10)] [] (mj_hw w c hi hl) := l1
  rw [e248, q248_0, l1', q248_5, nl_10, if_pos (Int32.le_refl _), q248_43]
theorem s_rankedBy {t T s x : Nat} {a b : Nat → Nat} {R : Nat → Nat} (ht : t ≤ 16) (hab : ∀ i, i < t → a i < 10 ∧ b i < 10 ∧ a i ≠ b i) (hT : T = wt a b t) (hT2 : T < 1024) (hs : s < 1024) (hx : x < 10) (h230 : ∀ x y, x < 10 → y < 10 → hi 230 (10 * x + y) = nI (iv_cnt (fun i => decide (a i = x ∧ b i = y)) t)) (h231 : hi 231 (s ||| 2 ^ x) = nI (R (s ||| 2 ^ x))) : mj_dc mj_P E (d + 3) 249 [.ref 205, .int (nI s), .int (nI x), .int (nI T)] (mj_hw w c hi hl) = some (some (.int (nI (wr_g (wr_C a b t) R s x))), mj_hw w c hi hl) := by
  have e1 : ((nI T &&& (nI s ^^^ (-1))) &&& (((1 : Int32) <<< (nI x &&& 31)) ^^^ (-1))) = nI (mj_df (mj_df T s) (2 ^ x)) := by rw [bx_one x (by omega), bx_df, bx_df]
  have hB : mj_df (mj_df T s) (2 ^ x) < 1024 := mj_df_le (n := 10) _ _ (mj_df_le (n := 10) _ _ hT2)
  have hlt : s ||| 2 ^ x < 1024 := Nat.or_lt_two_pow (n := 10) hs (Nat.pow_lt_pow_right (by omega) hx)
  have e2 : wsum a b t (mj_df (mj_df T s) (2 ^ x)) x 10 = wr_C a b t s x := by
    rw [wsum_eq]
    refine iv_cnt_congr t (fun i hi => ?_)
    obtain ⟨ha, hb, hne⟩ := hab i hi
    have Ta : T.testBit (a i) = true := by rw [hT]; exact (wt_bit a b _ t).mpr ⟨i, hi, Or.inl rfl⟩
    have hbit : (mj_df (mj_df T s) (2 ^ x)).testBit (a i) = (!s.testBit (a i) && !decide (x = a i)) := by rw [mj_df_bit, mj_df_bit, Ta, Nat.testBit_two_pow, Bool.true_and]
    refine decide_eq_decide.mpr ⟨fun z => ⟨z.1, ?_⟩, fun z => ⟨z.1, ha, ?_⟩⟩
    · have h3 := z.2.2
      rw [hbit] at h3
      intro h4
      rw [h4] at h3; simp at h3
    · rw [hbit, decide_eq_false (fun h => hne (by rw [z.1, h]))]
      have h5 : s.testBit (a i) = false := by simpa using z.2
      rw [h5]; rfl
  have eo := s_otherwise (E := E) (d := d) (w := w) (c := c) (hi := hi) (hl := hl) (a := a) (b := b) (t := t) (B := mj_df (mj_df T s) (2 ^ x)) (x := x) ht hB hx h230
  rw [e2] at eo
  rw [e249, q249_0, e1, eo, mj_bi_some, q249_16, bx_one x (by omega), bx_or, if_pos (by rw [mj_nI0 (by omega), mj_nIc (by omega)]; exact ⟨trivial, by omega⟩), mj_nIc (by omega), h231, mj_nIadd]
  rfl
theorem s_findsR {t T : Nat} {a b : Nat → Nat} {R : Nat → Nat} (ht : t ≤ 16) (hab : ∀ i, i < t → a i < 10 ∧ b i < 10 ∧ a i ≠ b i) (hT : T = wt a b t) (hT2 : T < 1024) (h230 : ∀ x y, x < 10 → y < 10 → hi 230 (10 * x + y) = nI (iv_cnt (fun i => decide (a i = x ∧ b i = y)) t)) (hR : ∀ s, s ≤ 1023 → R s = wr_F (wr_C a b t) T R s) : ∃ g : mj_HI, mj_dc mj_P E (d + 4) 250 [.ref 205, .int (nI T)] (mj_hw w c hi hl) = some (none, mj_hw w c g hl) ∧ (∀ u, (∀ i, u.testBit i = true → T.testBit i = true) → g 231 u = nI (R u)) ∧ ∀ x k, x ≠ 231 → g x k = hi x k := by
  have hRb := wr_bd (wr_C_bd (a := a) (b := b) ht) hR
  have key := lp_ex (fun j (q : Value × Value × mj_HI) => mj_den mj_P E (d + 3) 250 2 [.ref 205, .int (nI T), .int (nI (T + 1 - j) - 1), q.1, q.2.1] [] (mj_hw w c q.2.2 hl)) (fun j q => (∀ u, T + 1 - j ≤ u → (∀ i, u.testBit i = true → T.testBit i = true) → q.2.2 231 u = nI (R u)) ∧ ∀ x k, x ≠ 231 → q.2.2 x k = hi x k) (T + 1) (fun j q hj hI => ?_) (.float 0, .float 0, hi) ⟨fun u h1 h2 => absurd (mj_sub_le h2) (by omega), fun _ _ _ => rfl⟩
  · obtain ⟨⟨u2, u3, g⟩, e, g1, g2⟩ := key
    simp only at g1 g2
    have e' : mj_den mj_P E (d + 3) 250 2 [.ref 205, .int (nI T), .int (nI (T + 1) - 1), .float 0, .float 0] [] (mj_hw w c hi hl) = mj_den mj_P E (d + 3) 250 2 [.ref 205, .int (nI T), .int (nI (T + 1 - (T + 1)) - 1), u2, u3] [] (mj_hw w c g hl) := e
    rw [mj_nIp (by omega), show T + 1 - 1 = T by omega, show T + 1 - (T + 1) = 0 by omega] at e'
    refine ⟨g, ?_, fun u hu => g1 u (by omega) hu, g2⟩
    rw [xg250, g250_0, e', g250_2, if_pos (by decide), g250_87]
  · obtain ⟨u2, u3, g⟩ := q
    obtain ⟨g1, g2⟩ := hI
    simp only at g1 g2
    obtain ⟨s, hs⟩ : ∃ s, s = T + 1 - j - 1 := ⟨_, rfl⟩
    have ev : nI (T + 1 - j) - 1 = nI s := by rw [hs]; exact mj_nIp (by omega)
    have ev2 : nI s + -1 = nI (T + 1 - (j + 1)) - 1 := by
      rw [show T + 1 - (j + 1) = s by omega]; exact (Int32.sub_eq_add_neg _ _).symm
    have hsT : s ≤ T := by omega
    have hge : T + 1 - (j + 1) = s := by omega
    by_cases hsub : ∀ i, s.testBit i = true → T.testBit i = true
    · have hdf : mj_df s T = 0 := mj_df_0.mpr hsub
      obtain ⟨z, hz⟩ : ∃ z, z = if s = T then 0 else 100000000 := ⟨_, rfl⟩
      have hzb : z ≤ 100000000 := by rw [hz]; split <;> omega
      have hsx : ∀ x, x < 10 → (wbl T s).testBit x = false → mj_dc mj_P E (d + 3) 249 [.ref 205, .int (nI s), .int (nI x), .int (nI T)] (mj_hw w c g hl) = some (some (.int (nI (wr_g (wr_C a b t) R s x))), mj_hw w c g hl) ∧ wr_g (wr_C a b t) R s x ≤ 30000 ∧ z = 100000000 := fun x hx hc => by
        obtain ⟨c1, c2⟩ := (wbl_clear hx).mp hc
        have hgt := wz_or_gt c1
        have hsu := mj_sub_or hsub c2
        have hle := mj_sub_le hsu
        refine ⟨s_rankedBy (d := d) ht hab hT hT2 (by omega) hx (fun x y h1 h2 => by rw [g2 _ _ (by omega)]; exact h230 x y h1 h2) (g1 _ (by omega) hsu), ?_, ?_⟩
        · have h1 := hRb (s ||| 2 ^ x) (by omega)
          have h2 := wr_C_bd (a := a) (b := b) ht s x
          unfold wr_g; omega
        · rw [hz, if_neg (fun h => by rw [h, c2] at c1; cases c1)]
      have l1 := lp_up (fun k => mj_den mj_P E (d + 3) 250 33 [.ref 205, .int (nI T), .int (nI s), .int (nI (wz_v (wr_g (wr_C a b t) R s) z (wz_ix (wr_g (wr_C a b t) R s) (wbl T s) k))), .int (nI k)] [] (mj_hw w c g hl)) 10 (fun k hk => by
        show mj_den mj_P E (d + 3) 250 33 [.ref 205, .int (nI T), .int (nI s), .int (nI (wz_v (wr_g (wr_C a b t) R s) z (wz_ix (wr_g (wr_C a b t) R s) (wbl T s) k))), .int (nI k)] [] (mj_hw w c g hl) = mj_den mj_P E (d + 3) 250 33 [.ref 205, .int (nI T), .int (nI s), .int (nI (wz_v (wr_g (wr_C a b t) R s) z (wz_ix (wr_g (wr_C a b t) R s) (wbl T s) (k + 1)))), .int (nI (k + 1))] [] (mj_hw w c g hl)
        have hdl : mj_df T s < 1024 := mj_df_le (n := 10) _ _ hT2
        have hbit : (mj_df T s).testBit k = !(wbl T s).testBit k := by
          rw [mj_df_bit, wbl_bit hk]
          cases T.testBit k <;> cases s.testBit k <;> rfl
        have n10 : ¬ 10 ≤ k := by omega
        rw [g250_33]
        by_cases hb : (wbl T s).testBit k = true
        · rw [hb] at hbit
          have hbit : (mj_df T s).testBit k = false := hbit
          rw [wz_ix_t hb]
          simp (disch := omega) only [↓reduceIte, Bool.false_eq_true, eq_self, mj_10, mj_01, mj_n10, mj_0n1, mj_1n1, mj_n11, mj_bi_some, mj_bv_some, mj_bj_some, mj_br_some, mj_r0, mj_r1, mj_q0, mj_q1, mj_b01, mj_q2, if_true, if_false, mj_it, mj_if, true_and, and_true, false_and, and_false, not_true_eq_false, not_false_eq_true, true_or, or_true, false_or, or_false, mj_nIle, mj_nIlt, mj_nIeq, mj_nI0, mj_nIc, mj_nIadd, mj_nIs, mj_ez, mj_ze, mj_eo, mj_ltz, mj_lez, mj_zlt, mj_olt, mj_lto, mj_leo, mj_ole, mj_nIn, mj_nnI, nl_2, nl_3, nl_4, nl_5, nl_6, nl_7, nl_8, nl_9, nl_10, nl_11, nl_12, nl_13, nl_14, nl_15, nl_16, nl_17, nl_18, nl_19, nl_20, nl_21, nl_22, nl_23, nl_24, nl_25, nl_26, nl_27, nl_28, nl_29, nl_30, nl_32, nl_33, nl_34, nl_35, nl_36, nl_37, nl_38, nl_39, nl_40, nl_41, nl_42, nl_43, nl_44, nl_45, nl_46, nl_47, nl_48, nl_49, nl_50, nl_51, nl_52, nl_53, nl_54, nl_55, nl_56, nl_57, nl_58, nl_59, nl_60, nl_61, nl_62, nl_64, nl_65, nl_66, nl_67, nl_68, nl_69, nl_92, nl_97, nl_99, nl_100, nl_122, nl_127, nl_128, nl_131, nl_132, nl_150, nl_200, nl_255, nl_256, nl_300, nl_342, nl_380, nl_381, nl_400, nl_401, nl_420, nl_500, nl_600, nl_800, nl_999, nl_1000, nl_1023, nl_1024, nl_1200, nl_2048, nl_2100, nl_4096, nl_9999, nl_10000, nl_10240, nl_999999, nl_1000000, if_pos, if_neg, bx_df, s_hM, hbit, n10, g250_51, g250_68]
        · have hb2 : (wbl T s).testBit k = false := by simpa using hb
          rw [hb2] at hbit
          have hbit : (mj_df T s).testBit k = true := hbit
          obtain ⟨eb, bb, zb⟩ := hsx k hk hb2
          cases hw : wz_ix (wr_g (wr_C a b t) R s) (wbl T s) k with
          | none =>
            rw [wz_ix_n hb hw]
            have hlt : wr_g (wr_C a b t) R s k < z := by omega
            simp (disch := omega) only [↓reduceIte, Bool.false_eq_true, eq_self, mj_10, mj_01, mj_n10, mj_0n1, mj_1n1, mj_n11, mj_bi_some, mj_bv_some, mj_bj_some, mj_br_some, mj_r0, mj_r1, mj_q0, mj_q1, mj_b01, mj_q2, if_true, if_false, mj_it, mj_if, true_and, and_true, false_and, and_false, not_true_eq_false, not_false_eq_true, true_or, or_true, false_or, or_false, mj_nIle, mj_nIlt, mj_nIeq, mj_nI0, mj_nIc, mj_nIadd, mj_nIs, mj_ez, mj_ze, mj_eo, mj_ltz, mj_lez, mj_zlt, mj_olt, mj_lto, mj_leo, mj_ole, mj_nIn, mj_nnI, nl_2, nl_3, nl_4, nl_5, nl_6, nl_7, nl_8, nl_9, nl_10, nl_11, nl_12, nl_13, nl_14, nl_15, nl_16, nl_17, nl_18, nl_19, nl_20, nl_21, nl_22, nl_23, nl_24, nl_25, nl_26, nl_27, nl_28, nl_29, nl_30, nl_32, nl_33, nl_34, nl_35, nl_36, nl_37, nl_38, nl_39, nl_40, nl_41, nl_42, nl_43, nl_44, nl_45, nl_46, nl_47, nl_48, nl_49, nl_50, nl_51, nl_52, nl_53, nl_54, nl_55, nl_56, nl_57, nl_58, nl_59, nl_60, nl_61, nl_62, nl_64, nl_65, nl_66, nl_67, nl_68, nl_69, nl_92, nl_97, nl_99, nl_100, nl_122, nl_127, nl_128, nl_131, nl_132, nl_150, nl_200, nl_255, nl_256, nl_300, nl_342, nl_380, nl_381, nl_400, nl_401, nl_420, nl_500, nl_600, nl_800, nl_999, nl_1000, nl_1023, nl_1024, nl_1200, nl_2048, nl_2100, nl_4096, nl_9999, nl_10000, nl_10240, nl_999999, nl_1000000, if_pos, if_neg, bx_df, s_hM, hbit, n10, g250_51, eb, g250_64, s_lesser, g250_67, g250_68, wz_v, hlt]
          | some m =>
            obtain ⟨m1, m2, _, _⟩ := (wz_ix_ok _ _ k).2 m hw
            obtain ⟨_, bm, _⟩ := hsx m (by omega) m2
            rw [wz_ix_s hb hw]
            by_cases hlt : wr_g (wr_C a b t) R s k < wr_g (wr_C a b t) R s m
            · rw [if_pos hlt]
              simp (disch := omega) only [↓reduceIte, Bool.false_eq_true, eq_self, mj_10, mj_01, mj_n10, mj_0n1, mj_1n1, mj_n11, mj_bi_some, mj_bv_some, mj_bj_some, mj_br_some, mj_r0, mj_r1, mj_q0, mj_q1, mj_b01, mj_q2, if_true, if_false, mj_it, mj_if, true_and, and_true, false_and, and_false, not_true_eq_false, not_false_eq_true, true_or, or_true, false_or, or_false, mj_nIle, mj_nIlt, mj_nIeq, mj_nI0, mj_nIc, mj_nIadd, mj_nIs, mj_ez, mj_ze, mj_eo, mj_ltz, mj_lez, mj_zlt, mj_olt, mj_lto, mj_leo, mj_ole, mj_nIn, mj_nnI, nl_2, nl_3, nl_4, nl_5, nl_6, nl_7, nl_8, nl_9, nl_10, nl_11, nl_12, nl_13, nl_14, nl_15, nl_16, nl_17, nl_18, nl_19, nl_20, nl_21, nl_22, nl_23, nl_24, nl_25, nl_26, nl_27, nl_28, nl_29, nl_30, nl_32, nl_33, nl_34, nl_35, nl_36, nl_37, nl_38, nl_39, nl_40, nl_41, nl_42, nl_43, nl_44, nl_45, nl_46, nl_47, nl_48, nl_49, nl_50, nl_51, nl_52, nl_53, nl_54, nl_55, nl_56, nl_57, nl_58, nl_59, nl_60, nl_61, nl_62, nl_64, nl_65, nl_66, nl_67, nl_68, nl_69, nl_92, nl_97, nl_99, nl_100, nl_122, nl_127, nl_128, nl_131, nl_132, nl_150, nl_200, nl_255, nl_256, nl_300, nl_342, nl_380, nl_381, nl_400, nl_401, nl_420, nl_500, nl_600, nl_800, nl_999, nl_1000, nl_1023, nl_1024, nl_1200, nl_2048, nl_2100, nl_4096, nl_9999, nl_10000, nl_10240, nl_999999, nl_1000000, if_pos, if_neg, bx_df, s_hM, hbit, n10, g250_51, eb, g250_64, s_lesser, g250_67, g250_68, wz_v, hlt]
            · rw [if_neg hlt]
              simp (disch := omega) only [↓reduceIte, Bool.false_eq_true, eq_self, mj_10, mj_01, mj_n10, mj_0n1, mj_1n1, mj_n11, mj_bi_some, mj_bv_some, mj_bj_some, mj_br_some, mj_r0, mj_r1, mj_q0, mj_q1, mj_b01, mj_q2, if_true, if_false, mj_it, mj_if, true_and, and_true, false_and, and_false, not_true_eq_false, not_false_eq_true, true_or, or_true, false_or, or_false, mj_nIle, mj_nIlt, mj_nIeq, mj_nI0, mj_nIc, mj_nIadd, mj_nIs, mj_ez, mj_ze, mj_eo, mj_ltz, mj_lez, mj_zlt, mj_olt, mj_lto, mj_leo, mj_ole, mj_nIn, mj_nnI, nl_2, nl_3, nl_4, nl_5, nl_6, nl_7, nl_8, nl_9, nl_10, nl_11, nl_12, nl_13, nl_14, nl_15, nl_16, nl_17, nl_18, nl_19, nl_20, nl_21, nl_22, nl_23, nl_24, nl_25, nl_26, nl_27, nl_28, nl_29, nl_30, nl_32, nl_33, nl_34, nl_35, nl_36, nl_37, nl_38, nl_39, nl_40, nl_41, nl_42, nl_43, nl_44, nl_45, nl_46, nl_47, nl_48, nl_49, nl_50, nl_51, nl_52, nl_53, nl_54, nl_55, nl_56, nl_57, nl_58, nl_59, nl_60, nl_61, nl_62, nl_64, nl_65, nl_66, nl_67, nl_68, nl_69, nl_92, nl_97, nl_99, nl_100, nl_122, nl_127, nl_128, nl_131, nl_132, nl_150, nl_200, nl_255, nl_256, nl_300, nl_342, nl_380, nl_381, nl_400, nl_401, nl_420, nl_500, nl_600, nl_800, nl_999, nl_1000, nl_1023, nl_1024, nl_1200, nl_2048, nl_2100, nl_4096, nl_9999, nl_10000, nl_10240, nl_999999, nl_1000000, if_pos, if_neg, bx_df, s_hM, hbit, n10, g250_51, eb, g250_64, s_lesser, g250_67, g250_68, wz_v, hlt])
      have hend : wz_v (wr_g (wr_C a b t) R s) z (wz_ix (wr_g (wr_C a b t) R s) (wbl T s) 10) = R s := by
        rw [hR s (by omega)]
        unfold wr_F wr_ix
        cases hw : wz_ix (wr_g (wr_C a b t) R s) (wbl T s) 10 with
        | some m => rfl
        | none =>
          have hall := (wz_ix_ok _ _ 10).1 hw
          have hTs : ∀ i, T.testBit i = true → s.testBit i = true := fun i hi => by
            by_cases h10 : i < 10
            · have := hall i h10
              rw [wbl_bit h10, hi] at this
              simpa using this
            · rw [Nat.testBit_lt_two_pow (Nat.lt_of_lt_of_le hT2 (Nat.pow_le_pow_right (n := 2) (by omega) (show 10 ≤ i by omega)))] at hi; cases hi
          have := mj_sub_le hTs
          show z = 0
          rw [hz, if_pos (by omega)]
      rw [hend] at l1
      have l1' : mj_den mj_P E (d + 3) 250 33 [.ref 205, .int (nI T), .int (nI s), .int (nI z), .int 0] [] (mj_hw w c g hl) = mj_den mj_P E (d + 3) 250 33 [.ref 205, .int (nI T), .int (nI s), .int (nI (R s)), .int (nI 10)] [] (mj_hw w c g hl) := l1
      refine ⟨(.int (nI (R s)), .int (nI 10), mj_u g 231 s (nI (R s))), ?_, fun u h1 h2 => ?_, fun x k hx => ?_⟩
      · show mj_den mj_P E (d + 3) 250 2 [.ref 205, .int (nI T), .int (nI (T + 1 - j) - 1), u2, u3] [] (mj_hw w c g hl) = mj_den mj_P E (d + 3) 250 2 [.ref 205, .int (nI T), .int (nI (T + 1 - (j + 1)) - 1), .int (nI (R s)), .int (nI 10)] [] (mj_hw w c (mj_u g 231 s (nI (R s))) hl)
        have hin : mj_den mj_P E (d + 3) 250 17 [.ref 205, .int (nI T), .int (nI s), u2, u3] [] (mj_hw w c g hl) = mj_den mj_P E (d + 3) 250 33 [.ref 205, .int (nI T), .int (nI s), .int (nI z), .int 0] [] (mj_hw w c g hl) := by
          rw [g250_17]
          by_cases hst : s = T
          · rw [hz, if_pos hst, hst, if_neg (fun h => h rfl), g250_29]; rfl
          · have hne : ¬ nI s = nI T := by rw [mj_nIeq (by omega) (by omega)]; exact hst
            rw [hz, if_neg hst, if_pos hne, g250_26, g250_29]; rfl
        rw [ev, g250_2, if_neg (by rw [mj_ltz (by omega)]; exact fun h => h), bx_df, hdf, if_pos (show nI 0 = 0 from rfl), hin, l1', g250_33, nl_10, if_pos (Int32.le_refl _), g250_74, if_pos (by rw [mj_nI0 (by omega), mj_nIc (by omega)]; exact ⟨trivial, by omega⟩), mj_nIc (by omega), g250_81, ev2]
      · show mj_u g 231 s (nI (R s)) 231 u = _
        by_cases hu : u = s
        · rw [hu, mj_u_eq]
        · rw [mj_u_pt (by omega)]; exact g1 u (by omega) h2
      · show mj_u g 231 s (nI (R s)) x k = _
        rw [mj_u_pt (by omega)]; exact g2 x k hx
    · have hdf : ¬ mj_df s T = 0 := fun h => hsub (mj_df_0.mp h)
      have hdl : mj_df s T < 1024 := mj_df_le (n := 10) _ _ (by omega)
      refine ⟨(u2, u3, g), ?_, fun u h1 h2 => ?_, g2⟩
      · show mj_den mj_P E (d + 3) 250 2 [.ref 205, .int (nI T), .int (nI (T + 1 - j) - 1), u2, u3] [] (mj_hw w c g hl) = mj_den mj_P E (d + 3) 250 2 [.ref 205, .int (nI T), .int (nI (T + 1 - (j + 1)) - 1), u2, u3] [] (mj_hw w c g hl)
        have hne : ¬ nI (mj_df s T) = (0 : Int32) := by rw [mj_ez (by omega)]; exact hdf
        rw [ev, g250_2, if_neg (by rw [mj_ltz (by omega)]; exact fun h => h), bx_df, if_neg hne, g250_81, ev2]
      · by_cases hu : u = s
        · rw [hu] at h2; exact absurd h2 hsub
        · exact g1 u (by omega) h2
end MJ89x2
