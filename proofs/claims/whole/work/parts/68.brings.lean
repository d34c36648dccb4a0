/-! brings -/
/-- what lot i brings behind the set s, and all behind it -/
def wq_g (n : Nat) (x y : Nat → Nat) (G : Nat → Nat) (s i : Nat) : Nat := (x i - wp_cs y s n) + G (s ||| 2 ^ i)
/-- the best: as the first of the least -/
def wq_ix (n : Nat) (x y : Nat → Nat) (G : Nat → Nat) (s : Nat) : Option Nat := wz_ix (fun i => 100000 - wq_g n x y G s i) s n
def wq_F (n : Nat) (x y : Nat → Nat) (G : Nat → Nat) (s : Nat) : Nat := wz_v (wq_g n x y G s) 0 (wq_ix n x y G s)
theorem wq_G (n : Nat) (x y : Nat → Nat) : ∃ G : Nat → Nat, ∀ s, s ≤ 2 ^ n - 1 → G s = wq_F n x y G s := by
  refine wz_ex (wq_F n x y) (2 ^ n - 1) (fun g h s hs => ?_)
  have hg : ∀ i, s.testBit i = false → wq_g n x y g s i = wq_g n x y h s i := fun i hi => by
    unfold wq_g; rw [hs _ (wz_or_gt hi)]
  unfold wq_F wq_ix
  -- only those not in s are looked at
  have key : ∀ k, wz_ix (fun i => 100000 - wq_g n x y g s i) s k = wz_ix (fun i => 100000 - wq_g n x y h s i) s k := by
    intro k
    induction k with
    | zero => rfl
    | succ k ih =>
      by_cases hb : s.testBit k = true
      · rw [wz_ix_t hb, wz_ix_t hb, ih]
      · have hb2 : s.testBit k = false := by simpa using hb
        cases hw : wz_ix (fun i => 100000 - wq_g n x y g s i) s k with
        | none => rw [wz_ix_n hb hw, wz_ix_n hb (by rw [← ih]; exact hw)]
        | some j =>
          have hj := ((wz_ix_ok _ s k).2 j hw).2.1
          rw [wz_ix_s hb hw, wz_ix_s hb (by rw [← ih]; exact hw), hg k hb2, hg j hj]
  rw [key n]
  cases hw : wz_ix (fun i => 100000 - wq_g n x y h s i) s n with
  | none => rfl
  | some j => exact hg j ((wz_ix_ok _ s n).2 j hw).2.1
theorem wq_bd {n : Nat} {x y G : Nat → Nat} (hx : ∀ i, i < n → x i ≤ 99) (hG : ∀ s, s ≤ 2 ^ n - 1 → G s = wq_F n x y G s) : ∀ s, s ≤ 2 ^ n - 1 → G s ≤ 99 * (2 ^ n - 1 - s) := by
  have : ∀ k s, s ≤ 2 ^ n - 1 → 2 ^ n - 1 - s = k → G s ≤ 99 * k := by
    intro k
    induction k using Nat.strongRecOn with
    | ind k ih =>
      intro s hs hk
      rw [hG s hs]
      unfold wq_F
      cases hw : wq_ix n x y G s with
      | none => exact Nat.zero_le _
      | some i =>
        obtain ⟨h1, h2, _, _⟩ := (wz_ix_ok _ s n).2 i hw
        have h3 := wz_or_gt h2
        have h4 : s ||| 2 ^ i < 2 ^ n := Nat.or_lt_two_pow (by have := Nat.two_pow_pos n; omega) (Nat.pow_lt_pow_right (by omega) h1)
        have h5 := ih (2 ^ n - 1 - (s ||| 2 ^ i)) (by omega) (s ||| 2 ^ i) (by omega) rfl
        have h6 := hx i h1
        show wq_g n x y G s i ≤ 99 * k
        unfold wq_g
        have : 99 * (2 ^ n - 1 - (s ||| 2 ^ i)) + 99 ≤ 99 * k := by omega
        omega
  exact fun s hs => this _ s hs rfl
theorem wq_sub {a b : Nat} (ha : a < 1000000) (hb : b < 1000000) : (if 0 < nI a - nI b then nI a - nI b else 0) = nI (a - b) := by
  by_cases h : b < a
  · rw [mj_nIsub (by omega), if_pos (by rw [mj_zlt (by omega)]; omega)]
  · have h1 : ¬ 0 < nI a - nI b := by
      rw [Int32.lt_iff_toInt_lt, pk_sub_toInt (by omega) (by omega)]; show ¬ ((0 : Int) < _); omega
    rw [if_neg h1, show a - b = 0 by omega]; rfl
/-- the sets in which the order goes on -/
def wq_S (n : Nat) (x y : Nat → Nat) (G : Nat → Nat) : Nat → Nat
  | 0 => 0
  | k + 1 => match wq_ix n x y G (wq_S n x y G k) with
    | none => wq_S n x y G k
    | some i => wq_S n x y G k ||| 2 ^ i
theorem wq_S_lt (n : Nat) (x y : Nat → Nat) (G : Nat → Nat) : ∀ k, wq_S n x y G k < 2 ^ n := by
  intro k
  induction k with
  | zero => exact Nat.two_pow_pos n
  | succ k ih =>
    show (match wq_ix n x y G (wq_S n x y G k) with | none => wq_S n x y G k | some i => wq_S n x y G k ||| 2 ^ i) < 2 ^ n
    cases hw : wq_ix n x y G (wq_S n x y G k) with
    | none => exact ih
    | some i => exact Nat.or_lt_two_pow ih (Nat.pow_lt_pow_right (by omega) ((wz_ix_ok _ _ n).2 i hw).1)
theorem wq_S_pc (n : Nat) (x y : Nat → Nat) (G : Nat → Nat) : ∀ k, k ≤ n → mj_pc n (wq_S n x y G k) = k ∧ (k < n → ∃ i, wq_ix n x y G (wq_S n x y G k) = some i) := by
  intro k
  induction k with
  | zero =>
    intro _
    have hz : mj_pc n 0 = 0 := iv_cnt_zero (fun i _ => Nat.zero_testBit i)
    refine ⟨hz, fun hn => ?_⟩
    cases hw : wq_ix n x y G 0 with
    | some i => exact ⟨i, by show wq_ix n x y G 0 = some i; exact hw⟩
    | none =>
      have := (wz_ix_ok _ 0 n).1 hw 0 hn
      rw [Nat.zero_testBit] at this; cases this
  | succ k ih =>
    intro hk
    obtain ⟨h1, h2⟩ := ih (by omega)
    obtain ⟨i, hi⟩ := h2 (by omega)
    obtain ⟨j1, j2, _, _⟩ := (wz_ix_ok _ _ n).2 i hi
    have e : wq_S n x y G (k + 1) = wq_S n x y G k ||| 2 ^ i := by
      show (match wq_ix n x y G (wq_S n x y G k) with | none => wq_S n x y G k | some i => wq_S n x y G k ||| 2 ^ i) = _
      rw [hi]
    have hpc : mj_pc n (wq_S n x y G (k + 1)) = k + 1 := by
      rw [e]
      have h3 : mj_pc n (wq_S n x y G k ||| 2 ^ i) = mj_pc n (wq_S n x y G k) + iv_cnt (fun j => decide (i = j)) n := by
        unfold mj_pc
        refine iv_cnt_add n (fun j hj => ?_)
        rw [wz_or_bit]
        by_cases hij : i = j
        · subst hij; rw [j2, decide_eq_true rfl]; exact Or.inr (Or.inl ⟨rfl, rfl, rfl⟩)
        · rw [decide_eq_false hij, Bool.or_false]
          cases (wq_S n x y G k).testBit j with
          | true => exact Or.inl ⟨rfl, rfl, rfl⟩
          | false => exact Or.inr (Or.inr ⟨rfl, rfl, rfl⟩)
      have h4 : iv_cnt (fun j => decide (i = j)) n = 1 := by
        have : ∀ m, i < m → iv_cnt (fun j => decide (i = j)) m = 1 := by
          intro m
          induction m with
          | zero => intro h; omega
          | succ m ihm =>
            intro h
            rw [iv_cnt_s]
            by_cases him : i = m
            · subst him
              rw [iv_cnt_zero (p := fun j => decide (i = j)) (n := i) (fun j hj => decide_eq_false (by omega)), if_pos (decide_eq_true rfl)]
            · rw [ihm (by omega), if_neg (fun z => him (of_decide_eq_true z))]
        exact this n j1
      rw [h3, h1, h4]
    refine ⟨hpc, fun hn => ?_⟩
    cases hw : wq_ix n x y G (wq_S n x y G (k + 1)) with
    | some i => exact ⟨i, rfl⟩
    | none =>
      exfalso
      have hall := (wz_ix_ok _ _ n).1 hw
      have : mj_pc n (wq_S n x y G (k + 1)) = n := by
        unfold mj_pc
        have : ∀ m, m ≤ n → iv_cnt (fun i => (wq_S n x y G (k + 1)).testBit i) m = m := by
          intro m
          induction m with
          | zero => intro _; rfl
          | succ m ihm => intro hm; rw [iv_cnt_s, ihm (by omega), hall m (by omega)]; rfl
        exact this n (Nat.le_refl _)
      omega
theorem wq_S_s {n : Nat} {x y G : Nat → Nat} {k i : Nat} (h : wq_ix n x y G (wq_S n x y G k) = some i) : wq_S n x y G (k + 1) = wq_S n x y G k ||| 2 ^ i := by
  show (match wq_ix n x y G (wq_S n x y G k) with | none => wq_S n x y G k | some i => wq_S n x y G k ||| 2 ^ i) = _
  rw [h]
section MJ68
variable {E : mj_E} {d w c : Nat} {hi : mj_HI} {hl : Nat → Nat → Int64}
theorem s_tired {n s : Nat} {y : Nat → Nat} (hn : n ≤ 7) (hs : s < 128) (h0 : hi 194 0 = nI n) (hy : ∀ i, i < n → hi 40 i = nI (y i)) : mj_dc mj_P E (d + 2) 39 [.ref 194, .ref 34, .int (nI s)] (mj_hw w c hi hl) = some (some (.int (nI (wp_cs y s n))), mj_hw w c hi hl) := by
  rw [e39, q39_0]
  refine (lp_up (fun j => mj_den mj_P E (d + 1) 39 5 [.ref 194, .ref 34, .int (nI s), .int (nI (wp_cs y s j)), .int (nI j)] [] (mj_hw w c hi hl)) n (fun j hj => ?_)).trans ?_
  · show mj_den mj_P E (d + 1) 39 5 [.ref 194, .ref 34, .int (nI s), .int (nI (wp_cs y s j)), .int (nI j)] [] (mj_hw w c hi hl) = mj_den mj_P E (d + 1) 39 5 [.ref 194, .ref 34, .int (nI s), .int (nI (wp_cs y s (j + 1))), .int (nI (j + 1))] [] (mj_hw w c hi hl)
    have hyj := hy j hj
    rw [q39_5, h0, wp_cs_s]
    by_cases hb : s.testBit j = true
    · simp (disch := omega) only [↓reduceIte, Bool.false_eq_true, eq_self, mj_10, mj_01, mj_n10, mj_0n1, mj_1n1, mj_n11, mj_bi_some, mj_bv_some, mj_bj_some, mj_br_some, mj_r0, mj_r1, mj_q0, mj_q1, mj_b01, mj_q2, if_true, if_false, mj_it, mj_if, true_and, and_true, false_and, and_false, not_true_eq_false, not_false_eq_true, true_or, or_true, false_or, or_false, mj_nIle, mj_nIlt, mj_nIeq, mj_nI0, mj_nIc, mj_nIadd, mj_nIs, mj_ez, mj_ze, mj_eo, mj_ltz, mj_lez, mj_zlt, mj_olt, mj_lto, mj_leo, mj_ole, mj_nIn, mj_nnI, nl_2, nl_3, nl_4, nl_5, nl_6, nl_7, nl_8, nl_9, nl_10, nl_11, nl_12, nl_13, nl_14, nl_15, nl_16, nl_17, nl_18, nl_19, nl_20, nl_21, nl_22, nl_23, nl_24, nl_25, nl_26, nl_27, nl_28, nl_29, nl_30, nl_32, nl_33, nl_34, nl_35, nl_36, nl_37, nl_38, nl_39, nl_40, nl_41, nl_42, nl_43, nl_44, nl_45, nl_46, nl_47, nl_48, nl_49, nl_50, nl_51, nl_52, nl_53, nl_54, nl_55, nl_56, nl_57, nl_58, nl_59, nl_60, nl_61, nl_62, nl_64, nl_65, nl_66, nl_67, nl_68, nl_69, nl_92, nl_97, nl_99, nl_100, nl_122, nl_127, nl_128, nl_131, nl_132, nl_150, nl_200, nl_255, nl_256, nl_300, nl_342, nl_380, nl_381, nl_400, nl_401, nl_420, nl_500, nl_600, nl_800, nl_999, nl_1000, nl_1023, nl_1024, nl_1200, nl_2048, nl_2100, nl_4096, nl_9999, nl_10000, nl_10240, nl_999999, nl_1000000, if_pos, if_neg, s_hX, hb, q39_27, q39_40, hyj]
    · simp (disch := omega) only [↓reduceIte, Bool.false_eq_true, eq_self, mj_10, mj_01, mj_n10, mj_0n1, mj_1n1, mj_n11, mj_bi_some, mj_bv_some, mj_bj_some, mj_br_some, mj_r0, mj_r1, mj_q0, mj_q1, mj_b01, mj_q2, if_true, if_false, mj_it, mj_if, true_and, and_true, false_and, and_false, not_true_eq_false, not_false_eq_true, true_or, or_true, false_or, or_false, mj_nIle, mj_nIlt, mj_nIeq, mj_nI0, mj_nIc, mj_nIadd, mj_nIs, mj_ez, mj_ze, mj_eo, mj_ltz, mj_lez, mj_zlt, mj_olt, mj_lto, mj_leo, mj_ole, mj_nIn, mj_nnI, nl_2, nl_3, nl_4, nl_5, nl_6, nl_7, nl_8, nl_9, nl_10, nl_11, nl_12, nl_13, nl_14, nl_15, nl_16, nl_17, nl_18, nl_19, nl_20, nl_21, nl_22, nl_23, nl_24, nl_25, nl_26, nl_27, nl_28, nl_29, nl_30, nl_32, nl_33, nl_34, nl_35, nl_36, nl_37, nl_38, nl_39, nl_40, nl_41, nl_42, nl_43, nl_44, nl_45, nl_46, nl_47, nl_48, nl_49, nl_50, nl_51, nl_52, nl_53, nl_54, nl_55, nl_56, nl_57, nl_58, nl_59, nl_60, nl_61, nl_62, nl_64, nl_65, nl_66, nl_67, nl_68, nl_69, nl_92, nl_97, nl_99, nl_100, nl_122, nl_127, nl_128, nl_131, nl_132, nl_150, nl_200, nl_255, nl_256, nl_300, nl_342, nl_380, nl_381, nl_400, nl_401, nl_420, nl_500, nl_600, nl_800, nl_999, nl_1000, nl_1023, nl_1024, nl_1200, nl_2048, nl_2100, nl_4096, nl_9999, nl_10000, nl_10240, nl_999999, nl_1000000, if_pos, if_neg, s_hX, hb, q39_27, q39_40, Nat.add_zero]
  · show mj_den mj_P E (d + 1) 39 5 _ _ _ = _
    rw [q39_5, h0, if_pos (Int32.le_refl _), q39_46]
theorem s_gain {n s i : Nat} {x y G : Nat → Nat} (hn : n ≤ 7) (hi' : i < n) (hs : s < 2 ^ n) (hT : wp_cs y s n < 1000) (hx : hi 39 i = nI (x i)) (hx2 : x i ≤ 99) (hG : hi 201 (s ||| 2 ^ i) = nI (G (s ||| 2 ^ i))) : mj_dc mj_P E (d + 2) 40 [.ref 194, .ref 34, .int (nI s), .int (nI (wp_cs y s n)), .int (nI i)] (mj_hw w c hi hl) = some (some (.int (nI (wq_g n x y G s i))), mj_hw w c hi hl) := by
  have h128 : 2 ^ n ≤ 128 := Nat.pow_le_pow_right (n := 2) (by omega) hn
  have hlt : s ||| 2 ^ i < 2 ^ n := Nat.or_lt_two_pow hs (Nat.pow_lt_pow_right (by omega) hi')
  have e1 : nI s ||| ((1 : Int32) <<< (nI i &&& 31)) = nI (s ||| 2 ^ i) := by rw [bx_one i (by omega), bx_or]
  have e2 := wq_sub (a := x i) (b := wp_cs y s n) (by omega) (by omega)
  simp (disch := omega) only [q40_0, q40_13, e40, ↓reduceIte, Bool.false_eq_true, eq_self, mj_10, mj_01, mj_n10, mj_0n1, mj_1n1, mj_n11, mj_bi_some, mj_bv_some, mj_bj_some, mj_br_some, mj_r0, mj_r1, mj_q0, mj_q1, mj_b01, mj_q2, if_true, if_false, mj_it, mj_if, true_and, and_true, false_and, and_false, not_true_eq_false, not_false_eq_true, true_or, or_true, false_or, or_false, mj_nIle, mj_nIlt, mj_nIeq, mj_nI0, mj_nIc, mj_nIadd, mj_nIs, mj_ez, mj_ze, mj_eo, mj_ltz, mj_lez, mj_zlt, mj_olt, mj_lto, mj_leo, mj_ole, mj_nIn, mj_nnI, nl_2, nl_3, nl_4, nl_5, nl_6, nl_7, nl_8, nl_9, nl_10, nl_11, nl_12, nl_13, nl_14, nl_15, nl_16, nl_17, nl_18, nl_19, nl_20, nl_21, nl_22, nl_23, nl_24, nl_25, nl_26, nl_27, nl_28, nl_29, nl_30, nl_32, nl_33, nl_34, nl_35, nl_36, nl_37, nl_38, nl_39, nl_40, nl_41, nl_42, nl_43, nl_44, nl_45, nl_46, nl_47, nl_48, nl_49, nl_50, nl_51, nl_52, nl_53, nl_54, nl_55, nl_56, nl_57, nl_58, nl_59, nl_60, nl_61, nl_62, nl_64, nl_65, nl_66, nl_67, nl_68, nl_69, nl_92, nl_97, nl_99, nl_100, nl_122, nl_127, nl_128, nl_131, nl_132, nl_150, nl_200, nl_255, nl_256, nl_300, nl_342, nl_380, nl_381, nl_400, nl_401, nl_420, nl_500, nl_600, nl_800, nl_999, nl_1000, nl_1023, nl_1024, nl_1200, nl_2048, nl_2100, nl_4096, nl_9999, nl_10000, nl_10240, nl_999999, nl_1000000, if_pos, if_neg, s_max, hx, e1, hG, e2]
  unfold wq_g; rfl
theorem s_bestLot {n s : Nat} {x y G : Nat → Nat} (hn : n ≤ 7) (hs : s < 2 ^ n) (hT : wp_cs y s n < 1000) (h0 : hi 194 0 = nI n) (hx : ∀ i, i < n → hi 39 i = nI (x i) ∧ x i ≤ 99) (hb : ∀ i, i < n → s.testBit i = false → hi 201 (s ||| 2 ^ i) = nI (G (s ||| 2 ^ i)) ∧ G (s ||| 2 ^ i) ≤ 20000) : mj_dc mj_P E (d + 3) 41 [.ref 194, .ref 34, .int (nI s), .int (nI (wp_cs y s n))] (mj_hw w c hi hl) = some (some (.int (wz_io (wq_ix n x y G s))), mj_hw w c hi hl) := by
  have h128 : 2 ^ n ≤ 128 := Nat.pow_le_pow_right (n := 2) (by omega) hn
  have hgb : ∀ i, i < n → s.testBit i = false → wq_g n x y G s i ≤ 30000 := fun i h1 h2 => by
    have := (hx i h1).2; have := (hb i h1 h2).2; unfold wq_g; omega
  rw [xg41, g41_0]
  have key := lp_ex (fun k (q : Int32 × Value) => mj_den mj_P E (d + 2) 41 9 [.ref 194, .ref 34, .int (nI s), .int (nI (wp_cs y s n)), .int (wz_io (wz_ix (fun i => 100000 - wq_g n x y G s i) s k)), .int q.1, .int (nI k), q.2] [] (mj_hw w c hi hl)) (fun k q => ∀ i, wz_ix (fun i => 100000 - wq_g n x y G s i) s k = some i → q.1 = nI (wq_g n x y G s i)) n (fun k q hk hI => ?_) (0, .float 0) (fun i h => by cases h)
  · obtain ⟨⟨v5, u7⟩, e, _⟩ := key
    refine Eq.trans e ?_
    show mj_den mj_P E (d + 2) 41 9 [.ref 194, .ref 34, .int (nI s), .int (nI (wp_cs y s n)), .int (wz_io (wz_ix (fun i => 100000 - wq_g n x y G s i) s n)), .int v5, .int (nI n), u7] [] (mj_hw w c hi hl) = _
    rw [g41_9, h0, if_pos (Int32.le_refl _), g41_72]; rfl
  · obtain ⟨v5, u7⟩ := q
    simp only at hI
    show ∃ q' : Int32 × Value, mj_den mj_P E (d + 2) 41 9 [.ref 194, .ref 34, .int (nI s), .int (nI (wp_cs y s n)), .int (wz_io (wz_ix (fun i => 100000 - wq_g n x y G s i) s k)), .int v5, .int (nI k), u7] [] (mj_hw w c hi hl) = mj_den mj_P E (d + 2) 41 9 [.ref 194, .ref 34, .int (nI s), .int (nI (wp_cs y s n)), .int (wz_io (wz_ix (fun i => 100000 - wq_g n x y G s i) s (k + 1))), .int q'.1, .int (nI (k + 1)), q'.2] [] (mj_hw w c hi hl) ∧ _
    by_cases hbk : s.testBit k = true
    · refine ⟨(v5, u7), ?_, ?_⟩
      · rw [wz_ix_t hbk, g41_9, h0]
        simp (disch := omega) only [↓reduceIte, Bool.false_eq_true, eq_self, mj_10, mj_01, mj_n10, mj_0n1, mj_1n1, mj_n11, mj_bi_some, mj_bv_some, mj_bj_some, mj_br_some, mj_r0, mj_r1, mj_q0, mj_q1, mj_b01, mj_q2, if_true, if_false, mj_it, mj_if, true_and, and_true, false_and, and_false, not_true_eq_false, not_false_eq_true, true_or, or_true, false_or, or_false, mj_nIle, mj_nIlt, mj_nIeq, mj_nI0, mj_nIc, mj_nIadd, mj_nIs, mj_ez, mj_ze, mj_eo, mj_ltz, mj_lez, mj_zlt, mj_olt, mj_lto, mj_leo, mj_ole, mj_nIn, mj_nnI, nl_2, nl_3, nl_4, nl_5, nl_6, nl_7, nl_8, nl_9, nl_10, nl_11, nl_12, nl_13, nl_14, nl_15, nl_16, nl_17, nl_18, nl_19, nl_20, nl_21, nl_22, nl_23, nl_24, nl_25, nl_26, nl_27, nl_28, nl_29, nl_30, nl_32, nl_33, nl_34, nl_35, nl_36, nl_37, nl_38, nl_39, nl_40, nl_41, nl_42, nl_43, nl_44, nl_45, nl_46, nl_47, nl_48, nl_49, nl_50, nl_51, nl_52, nl_53, nl_54, nl_55, nl_56, nl_57, nl_58, nl_59, nl_60, nl_61, nl_62, nl_64, nl_65, nl_66, nl_67, nl_68, nl_69, nl_92, nl_97, nl_99, nl_100, nl_122, nl_127, nl_128, nl_131, nl_132, nl_150, nl_200, nl_255, nl_256, nl_300, nl_342, nl_380, nl_381, nl_400, nl_401, nl_420, nl_500, nl_600, nl_800, nl_999, nl_1000, nl_1023, nl_1024, nl_1200, nl_2048, nl_2100, nl_4096, nl_9999, nl_10000, nl_10240, nl_999999, nl_1000000, if_pos, if_neg, s_hX, hbk, g41_31, g41_66]
      · rw [wz_ix_t hbk]; exact hI
    · have hbk2 : s.testBit k = false := by simpa using hbk
      obtain ⟨x1, x2⟩ := hx k hk
      obtain ⟨b1, b2⟩ := hb k hk hbk2
      have eg : mj_dc mj_P E (d + 2) 40 [.ref 194, .ref 34, .int (nI s), .int (nI (wp_cs y s n)), .int (nI k)] (mj_hw w c hi hl) = _ := s_gain (d := d) (x := x) (y := y) (G := G) hn hk hs hT x1 x2 b1
      have gk := hgb k hk hbk2
      cases hw : wz_ix (fun i => 100000 - wq_g n x y G s i) s k with
      | none =>
        refine ⟨(nI (wq_g n x y G s k), .int (nI (wq_g n x y G s k))), ?_, ?_⟩
        · rw [wz_ix_n hbk hw, g41_9, h0]
          simp (disch := omega) only [↓reduceIte, Bool.false_eq_true, eq_self, mj_10, mj_01, mj_n10, mj_0n1, mj_1n1, mj_n11, mj_bi_some, mj_bv_some, mj_bj_some, mj_br_some, mj_r0, mj_r1, mj_q0, mj_q1, mj_b01, mj_q2, if_true, if_false, mj_it, mj_if, true_and, and_true, false_and, and_false, not_true_eq_false, not_false_eq_true, true_or, or_true, false_or, or_false, mj_nIle, mj_nIlt, mj_nIeq, mj_nI0, mj_nIc, mj_nIadd, mj_nIs, mj_ez, mj_ze, mj_eo, mj_ltz, mj_lez, mj_zlt, mj_olt, mj_lto, mj_leo, mj_ole, mj_nIn, mj_nnI, nl_2, nl_3, nl_4, nl_5, nl_6, nl_7, nl_8, nl_9, nl_10, nl_11, nl_12, nl_13, nl_14, nl_15, nl_16, nl_17, nl_18, nl_19, nl_20, nl_21, nl_22, nl_23, nl_24, nl_25, nl_26, nl_27, nl_28, nl_29, nl_30, nl_32, nl_33, nl_34, nl_35, nl_36, nl_37, nl_38, nl_39, nl_40, nl_41, nl_42, nl_43, nl_44, nl_45, nl_46, nl_47, nl_48, nl_49, nl_50, nl_51, nl_52, nl_53, nl_54, nl_55, nl_56, nl_57, nl_58, nl_59, nl_60, nl_61, nl_62, nl_64, nl_65, nl_66, nl_67, nl_68, nl_69, nl_92, nl_97, nl_99, nl_100, nl_122, nl_127, nl_128, nl_131, nl_132, nl_150, nl_200, nl_255, nl_256, nl_300, nl_342, nl_380, nl_381, nl_400, nl_401, nl_420, nl_500, nl_600, nl_800, nl_999, nl_1000, nl_1023, nl_1024, nl_1200, nl_2048, nl_2100, nl_4096, nl_9999, nl_10000, nl_10240, nl_999999, nl_1000000, if_pos, if_neg, s_hX, hbk, g41_31, eg, g41_43, g41_58, g41_66, wz_io]
        · rw [wz_ix_n hbk hw]; intro i h; cases h; rfl
      | some j =>
        have hv := hI j hw
        obtain ⟨j1, j2, _, _⟩ := (wz_ix_ok _ s k).2 j hw
        have gj := hgb j (by omega) j2
        rw [hv]
        by_cases hlt : wq_g n x y G s j < wq_g n x y G s k
        · have hlt2 : 100000 - wq_g n x y G s k < 100000 - wq_g n x y G s j := by omega
          refine ⟨(nI (wq_g n x y G s k), .int (nI (wq_g n x y G s k))), ?_, ?_⟩
          · rw [wz_ix_s hbk hw, if_pos hlt2, g41_9, h0]
            simp (disch := omega) only [↓reduceIte, Bool.false_eq_true, eq_self, mj_10, mj_01, mj_n10, mj_0n1, mj_1n1, mj_n11, mj_bi_some, mj_bv_some, mj_bj_some, mj_br_some, mj_r0, mj_r1, mj_q0, mj_q1, mj_b01, mj_q2, if_true, if_false, mj_it, mj_if, true_and, and_true, false_and, and_false, not_true_eq_false, not_false_eq_true, true_or, or_true, false_or, or_false, mj_nIle, mj_nIlt, mj_nIeq, mj_nI0, mj_nIc, mj_nIadd, mj_nIs, mj_ez, mj_ze, mj_eo, mj_ltz, mj_lez, mj_zlt, mj_olt, mj_lto, mj_leo, mj_ole, mj_nIn, mj_nnI, nl_2, nl_3, nl_4, nl_5, nl_6, nl_7, nl_8, nl_9, nl_10, nl_11, nl_12, nl_13, nl_14, nl_15, nl_16, nl_17, nl_18, nl_19, nl_20, nl_21, nl_22, nl_23, nl_24, nl_25, nl_26, nl_27, nl_28, nl_29, nl_30, nl_32, nl_33, nl_34, nl_35, nl_36, nl_37, nl_38, nl_39, nl_40, nl_41, nl_42, nl_43, nl_44, nl_45, nl_46, nl_47, nl_48, nl_49, nl_50, nl_51, nl_52, nl_53, nl_54, nl_55, nl_56, nl_57, nl_58, nl_59, nl_60, nl_61, nl_62, nl_64, nl_65, nl_66, nl_67, nl_68, nl_69, nl_92, nl_97, nl_99, nl_100, nl_122, nl_127, nl_128, nl_131, nl_132, nl_150, nl_200, nl_255, nl_256, nl_300, nl_342, nl_380, nl_381, nl_400, nl_401, nl_420, nl_500, nl_600, nl_800, nl_999, nl_1000, nl_1023, nl_1024, nl_1200, nl_2048, nl_2100, nl_4096, nl_9999, nl_10000, nl_10240, nl_999999, nl_1000000, if_pos, if_neg, s_hX, hbk, g41_31, eg, g41_43, g41_58, g41_66, wz_io]
          · rw [wz_ix_s hbk hw, if_pos hlt2]; intro i h; cases h; rfl
        · have hlt2 : ¬ 100000 - wq_g n x y G s k < 100000 - wq_g n x y G s j := by omega
          refine ⟨(nI (wq_g n x y G s j), .int (nI (wq_g n x y G s k))), ?_, ?_⟩
          · rw [wz_ix_s hbk hw, if_neg hlt2, g41_9, h0]
            simp (disch := omega) only [↓reduceIte, Bool.false_eq_true, eq_self, mj_10, mj_01, mj_n10, mj_0n1, mj_1n1, mj_n11, mj_bi_some, mj_bv_some, mj_bj_some, mj_br_some, mj_r0, mj_r1, mj_q0, mj_q1, mj_b01, mj_q2, if_true, if_false, mj_it, mj_if, true_and, and_true, false_and, and_false, not_true_eq_false, not_false_eq_true, true_or, or_true, false_or, or_false, mj_nIle, mj_nIlt, mj_nIeq, mj_nI0, mj_nIc, mj_nIadd, mj_nIs, mj_ez, mj_ze, mj_eo, mj_ltz, mj_lez, mj_zlt, mj_olt, mj_lto, mj_leo, mj_ole, mj_nIn, mj_nnI, nl_2, nl_3, nl_4, nl_5, nl_6, nl_7, nl_8, nl_9, nl_10, nl_11, nl_12, nl_13, nl_14, nl_15, nl_16, nl_17, nl_18, nl_19, nl_20, nl_21, nl_22, nl_23, nl_24, nl_25, nl_26, nl_27, nl_28, nl_29, nl_30, nl_32, nl_33, nl_34, nl_35, nl_36, nl_37, nl_38, nl_39, nl_40, nl_41, nl_42, nl_43, nl_44, nl_45, nl_46, nl_47, nl_48, nl_49, nl_50, nl_51, nl_52, nl_53, nl_54, nl_55, nl_56, nl_57, nl_58, nl_59, nl_60, nl_61, nl_62, nl_64, nl_65, nl_66, nl_67, nl_68, nl_69, nl_92, nl_97, nl_99, nl_100, nl_122, nl_127, nl_128, nl_131, nl_132, nl_150, nl_200, nl_255, nl_256, nl_300, nl_342, nl_380, nl_381, nl_400, nl_401, nl_420, nl_500, nl_600, nl_800, nl_999, nl_1000, nl_1023, nl_1024, nl_1200, nl_2048, nl_2100, nl_4096, nl_9999, nl_10000, nl_10240, nl_999999, nl_1000000, if_pos, if_neg, s_hX, hbk, g41_31, eg, g41_43, g41_58, g41_66, wz_io]
          · rw [wz_ix_s hbk hw, if_neg hlt2]; intro i h; cases h; rfl
end MJ68
