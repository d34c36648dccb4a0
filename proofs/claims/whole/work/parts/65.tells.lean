/-! tells -/
def wt_tri (n : Nat) : Nat := n * (n - 1) / 2
def wt_b (i : Nat) : Nat := if i < 1 then 1 else if i < 3 then 2 else if i < 6 then 3 else if i < 10 then 4 else if i < 15 then 5 else if i < 21 then 6 else if i < 28 then 7 else if i < 36 then 8 else 9
def wt_a (i : Nat) : Nat := i - wt_tri (wt_b i)
theorem wt_dec : ∀ b, b < 10 → ∀ a, a < b → wt_b (wt_tri b + a) = b ∧ wt_a (wt_tri b + a) = a := by decide +kernel
theorem wt_tri_s : ∀ b, b < 11 → b ≠ 0 → wt_tri (b + 1) = wt_tri b + b ∧ wt_tri b ≤ 45 := by decide +kernel
theorem wt_tri_b : ∀ b, b < 10 → ∀ a, a < b → wt_tri b + a < 45 := by decide +kernel
def wt_q (x : Nat → Nat) (v i : Nat) : Bool := (x v).testBit (wt_a i) != (x v).testBit (wt_b i)
def wt_cp (x : Nat → Nat) (n v : Nat) : Nat := mj_st (wt_q x v) (wt_tri n)
def wt_any (x : Nat → Nat) (s a b : Nat) : Nat → Bool
  | 0 => false
  | v + 1 => wt_any x s a b v || (s.testBit v && ((x v).testBit a != (x v).testBit b))
theorem wt_any_iff (x : Nat → Nat) (s a b : Nat) : ∀ k, wt_any x s a b k = true ↔ ∃ v, v < k ∧ s.testBit v = true ∧ ((x v).testBit a != (x v).testBit b) = true := by
  intro k
  induction k with
  | zero => simp [wt_any]
  | succ k ih =>
    unfold wt_any
    rw [Bool.or_eq_true, ih, Bool.and_eq_true]
    constructor
    · rintro (⟨v, h1, h2, h3⟩ | ⟨h2, h3⟩)
      · exact ⟨v, by omega, h2, h3⟩
      · exact ⟨k, by omega, h2, h3⟩
    · rintro ⟨v, h1, h2, h3⟩
      by_cases hv : v = k
      · subst hv; exact Or.inr ⟨h2, h3⟩
      · exact Or.inl ⟨v, by omega, h2, h3⟩
def wt_S (A : Nat → Nat → Bool) (n : Nat) : Nat → Nat
  | 0 => 0
  | a + 1 => wt_S A n a + iv_cnt (fun b => decide (a < b) && A a b) n
def wt_R (A : Nat → Nat → Bool) : Nat → Nat
  | 0 => 0
  | b + 1 => wt_R A b + iv_cnt (fun a => A a b) b
theorem wt_S_n (A : Nat → Nat → Bool) (n : Nat) : ∀ k, wt_S A (n + 1) k = wt_S A n k + iv_cnt (fun a => decide (a < n) && A a n) k := by
  intro k
  induction k with
  | zero => rfl
  | succ k ih =>
    show wt_S A (n + 1) k + iv_cnt (fun b => decide (k < b) && A k b) (n + 1) = wt_S A n k + iv_cnt (fun b => decide (k < b) && A k b) n + iv_cnt (fun a => decide (a < n) && A a n) (k + 1)
    rw [ih, iv_cnt_s, iv_cnt_s]; omega
theorem wt_SR (A : Nat → Nat → Bool) : ∀ n, wt_S A n n = wt_R A n := by
  intro n
  induction n with
  | zero => rfl
  | succ n ih =>
    show wt_S A (n + 1) n + iv_cnt (fun b => decide (n < b) && A n b) (n + 1) = wt_R A n + iv_cnt (fun a => A a n) n
    rw [wt_S_n, ih, iv_cnt_zero (p := fun b => decide (n < b) && A n b) (n := n + 1) (fun i hi => by rw [decide_eq_false (by omega)]; rfl), iv_cnt_congr (p := fun a => decide (a < n) && A a n) (q := fun a => A a n) n (fun i hi => by rw [decide_eq_true hi]; rfl)]
    rfl
theorem wt_Rtri (A : Nat → Nat → Bool) : ∀ n, n ≤ 10 → iv_cnt (fun i => A (wt_a i) (wt_b i)) (wt_tri n) = wt_R A n := by
  intro n
  induction n with
  | zero => intro _; rfl
  | succ n ih =>
    intro hn
    show _ = wt_R A n + iv_cnt (fun a => A a n) n
    by_cases h0 : n = 0
    · subst h0; rfl
    · rw [(wt_tri_s n (by omega) h0).1, iv_cnt_len, ih (by omega)]
      congr 1
      exact iv_cnt_congr n (fun a ha => by rw [(wt_dec n (by omega) a ha).1, (wt_dec n (by omega) a ha).2])
theorem wt_tri45 {n : Nat} (hn : n ≤ 10) : wt_tri n ≤ 45 := by
  have : ∀ n, n ≤ 10 → wt_tri n ≤ 45 := by decide +kernel
  exact this n hn
theorem wt_cp_lt (x : Nat → Nat) {n : Nat} (hn : n ≤ 10) (v : Nat) : wt_cp x n v < 2 ^ 45 :=
  Nat.lt_of_lt_of_le (mj_st_lt _ _) (Nat.pow_le_pow_right (by omega) (wt_tri45 hn))
theorem wt_U_bit (x : Nat → Nat) (n s i : Nat) : (wc_u (wt_cp x n) s 8).testBit i = (wt_any x s (wt_a i) (wt_b i) 8 && decide (i < wt_tri n)) := by
  rw [Bool.eq_iff_iff, wc_u_bit, Bool.and_eq_true, wt_any_iff]
  constructor
  · rintro ⟨v, h1, h2, h3⟩
    unfold wt_cp at h3
    rw [mj_st_bit, Bool.and_eq_true] at h3
    exact ⟨⟨v, h1, h2, h3.2⟩, h3.1⟩
  · rintro ⟨⟨v, h1, h2, h3⟩, h4⟩
    exact ⟨v, h1, h2, by unfold wt_cp; rw [mj_st_bit, h4]; exact h3⟩
/-- how many couples a set of words tells apart -/
def wt_N (x : Nat → Nat) (n s : Nat) : Nat := wt_S (fun a b => wt_any x s a b 8) n n
theorem wt_Npc (x : Nat → Nat) {n : Nat} (hn : n ≤ 10) (s : Nat) : mj_pc 64 (wc_u (wt_cp x n) s 8) = wt_N x n s := by
  unfold wt_N
  rw [wt_SR, ← wt_Rtri _ n hn]
  unfold mj_pc
  have := wt_tri45 hn
  exact iv_cnt_cut 64 (by omega) (fun i _ => wt_U_bit x n s i)
theorem wt_Nb (x : Nat → Nat) {n : Nat} (hn : n ≤ 10) (s : Nat) : wt_N x n s ≤ 64 := by
  rw [← wt_Npc x hn s]; exact iv_cnt_bd _ _
theorem wt_U_lt (x : Nat → Nat) {n : Nat} (hn : n ≤ 10) (s : Nat) : wc_u (wt_cp x n) s 8 < 2 ^ 45 := wc_u_lt (fun i _ => wt_cp_lt x hn i)
theorem wt_same (x : Nat → Nat) {n s : Nat} (hn : n ≤ 10) : wc_u (wt_cp x n) s 8 = wc_u (wt_cp x n) 255 8 ↔ wt_N x n s = wt_N x n 255 := by
  constructor
  · intro h; rw [← wt_Npc x hn, ← wt_Npc x hn, h]
  · intro h
    refine Classical.byContradiction (fun hne => ?_)
    have h64 : ∀ s, wc_u (wt_cp x n) s 8 < 2 ^ 64 := fun s => Nat.lt_of_lt_of_le (wt_U_lt x hn s) (by decide)
    have hsub : ∀ j, (wc_u (wt_cp x n) s 8).testBit j = true → (wc_u (wt_cp x n) 255 8).testBit j = true := by
      intro j hj
      rw [wc_u_bit] at hj ⊢
      obtain ⟨i, h1, h2, h3⟩ := hj
      refine ⟨i, h1, ?_, h3⟩
      have : ∀ i, i < 8 → Nat.testBit 255 i = true := by decide
      exact this i h1
    have := wk_pc_lt (h64 s) (h64 255) hsub hne
    rw [wt_Npc x hn, wt_Npc x hn] at this
    omega
def wt_few (x : Nat → Nat) (n : Nat) : Nat → Nat
  | 0 => 8
  | s + 1 => if mj_pc 12 s < wt_few x n s ∧ wt_N x n s = wt_N x n 255 then mj_pc 12 s else wt_few x n s
theorem wt_few_s (x : Nat → Nat) (n s : Nat) : wt_few x n (s + 1) = if mj_pc 12 s < wt_few x n s ∧ wt_N x n s = wt_N x n 255 then mj_pc 12 s else wt_few x n s := rfl
theorem wt_few_le (x : Nat → Nat) (n : Nat) : ∀ s, wt_few x n s ≤ 8 := by
  intro s
  induction s with
  | zero => exact Nat.le_refl _
  | succ s ih => rw [wt_few_s]; split <;> omega
section MJ65
variable {E : mj_E} {d w c : Nat} {hi : mj_HI} {hl : Nat → Nat → Int64}
theorem s_couple {x : Nat → Nat} {n v : Nat} (hn : n ≤ 10) (hv : v < 8) (hx : hi 38 v = nI (x v)) (hx2 : x v < 1024) (u8 : Value) : ∃ v6 v7 u8', mj_den mj_P E (d + 1) 91 23 [.ref 189, .int (nI n), .ref 38, .int (nI v), .long (lN 0), .float 0, .int 0, .int 1, u8] [] (mj_hw w c hi hl) = mj_den mj_P E (d + 1) 91 89 [.ref 189, .int (nI n), .ref 38, .int (nI v), .long (lN (wt_cp x n v)), .float 0, .int v6, .int v7, u8'] [] (mj_hw w c hi hl) := by
  have key := lp_ex (fun k (u : Value) => mj_den mj_P E (d + 1) 91 23 [.ref 189, .int (nI n), .ref 38, .int (nI v), .long (lN (mj_st (wt_q x v) (wt_tri (k + 1)))), .float 0, .int (nI (wt_tri (k + 1))), .int (nI (k + 1)), u] [] (mj_hw w c hi hl)) (fun _ _ => True) (n - 1) (fun k u hk _ => ⟨.int (nI (k + 1)), ?_, trivial⟩) u8 trivial
  · obtain ⟨u, e, _⟩ := key
    refine ⟨nI (wt_tri (n - 1 + 1)), nI (n - 1 + 1), u, ?_⟩
    refine Eq.trans e ?_
    show mj_den mj_P E (d + 1) 91 23 [.ref 189, .int (nI n), .ref 38, .int (nI v), .long (lN (mj_st (wt_q x v) (wt_tri (n - 1 + 1)))), .float 0, .int (nI (wt_tri (n - 1 + 1))), .int (nI (n - 1 + 1)), u] [] (mj_hw w c hi hl) = _
    have e1 : mj_st (wt_q x v) (wt_tri (n - 1 + 1)) = wt_cp x n v := by
      unfold wt_cp
      by_cases h0 : n = 0
      · subst h0; rfl
      · rw [show n - 1 + 1 = n by omega]
    rw [e1, g91_23, if_pos (by rw [mj_nIle (by omega) (by omega)]; omega)]
  · show mj_den mj_P E (d + 1) 91 23 [.ref 189, .int (nI n), .ref 38, .int (nI v), .long (lN (mj_st (wt_q x v) (wt_tri (k + 1)))), .float 0, .int (nI (wt_tri (k + 1))), .int (nI (k + 1)), u] [] (mj_hw w c hi hl) = mj_den mj_P E (d + 1) 91 23 [.ref 189, .int (nI n), .ref 38, .int (nI v), .long (lN (mj_st (wt_q x v) (wt_tri (k + 1 + 1)))), .float 0, .int (nI (wt_tri (k + 1 + 1))), .int (nI (k + 1 + 1)), .int (nI (k + 1))] [] (mj_hw w c hi hl)
    obtain ⟨t1, t2⟩ := wt_tri_s (k + 1) (by omega) (by omega)
    rw [g91_23, if_neg (by rw [mj_nIle (by omega) (by omega)]; omega), t1]
    refine (lp_up (fun a => mj_den mj_P E (d + 1) 91 32 [.ref 189, .int (nI n), .ref 38, .int (nI v), .long (lN (mj_st (wt_q x v) (wt_tri (k + 1) + a))), .float 0, .int (nI (wt_tri (k + 1) + a)), .int (nI (k + 1)), .int (nI a)] [] (mj_hw w c hi hl)) (k + 1) (fun a ha => ?_)).trans ?_
    · show mj_den mj_P E (d + 1) 91 32 [.ref 189, .int (nI n), .ref 38, .int (nI v), .long (lN (mj_st (wt_q x v) (wt_tri (k + 1) + a))), .float 0, .int (nI (wt_tri (k + 1) + a)), .int (nI (k + 1)), .int (nI a)] [] (mj_hw w c hi hl) = mj_den mj_P E (d + 1) 91 32 [.ref 189, .int (nI n), .ref 38, .int (nI v), .long (lN (mj_st (wt_q x v) (wt_tri (k + 1) + (a + 1)))), .float 0, .int (nI (wt_tri (k + 1) + (a + 1))), .int (nI (k + 1)), .int (nI (a + 1))] [] (mj_hw w c hi hl)
      have h45 := wt_tri_b (k + 1) (by omega) a ha
      obtain ⟨d1, d2⟩ := wt_dec (k + 1) (by omega) a ha
      rw [show wt_tri (k + 1) + (a + 1) = wt_tri (k + 1) + a + 1 by omega]
      have hq : wt_q x v (wt_tri (k + 1) + a) = ((x v).testBit a != (x v).testBit (k + 1)) := by unfold wt_q; rw [d1, d2]
      generalize wt_tri (k + 1) + a = I at h45 hq
      have hlt := mj_st_lt (wt_q x v) I
      have h2I : 2 ^ I ≤ 2 ^ 45 := Nat.pow_le_pow_right (by omega) (by omega)
      have h45n : (2 : Nat) ^ 45 = 35184372088832 := rfl
      have h64n : (2 : Nat) ^ 64 = 18446744073709551616 := rfl
      have hsh : lN (mj_st (wt_q x v) I) ||| (lN 1 <<< ((nI I).toInt64 &&& 63)) = lN (mj_st (wt_q x v) I ||| 2 ^ I) := by
        rw [wb_shl 1 (by omega), Nat.one_mul, wb_or (by omega) (by omega)]
      have eA : mj_dc mj_P E (d + 1) 148 [.int (nI (x v)), .int (nI a)] (mj_hw w c hi hl) = _ := s_hX (d := d) (s := x v) (k := a) (by omega) (by omega)
      have eB : mj_dc mj_P E (d + 1) 148 [.int (nI (x v)), .int (nI (k + 1))] (mj_hw w c hi hl) = _ := s_hX (d := d) (s := x v) (k := k + 1) (by omega) (by omega)
      rw [g91_32]
      cases hA : (x v).testBit a <;> cases hB : (x v).testBit (k + 1)
      · rw [hA, hB] at hq
        rw [hA] at eA; rw [hB] at eB
        rw [mj_st_f (p := wt_q x v) (k := I) (by rw [hq]; decide)]
        simp (disch := omega) only [↓reduceIte, Bool.false_eq_true, eq_self, mj_10, mj_01, mj_n10, mj_0n1, mj_1n1, mj_n11, mj_bi_some, mj_bv_some, mj_bj_some, mj_br_some, mj_r0, mj_r1, mj_q0, mj_q1, mj_b01, mj_q2, if_true, if_false, mj_it, mj_if, true_and, and_true, false_and, and_false, not_true_eq_false, not_false_eq_true, true_or, or_true, false_or, or_false, mj_nIle, mj_nIlt, mj_nIeq, mj_nI0, mj_nIc, mj_nIadd, mj_nIs, mj_ez, mj_ze, mj_eo, mj_ltz, mj_lez, mj_zlt, mj_olt, mj_lto, mj_leo, mj_ole, mj_nIn, mj_nnI, nl_2, nl_3, nl_4, nl_5, nl_6, nl_7, nl_8, nl_9, nl_10, nl_11, nl_12, nl_13, nl_14, nl_15, nl_16, nl_17, nl_18, nl_19, nl_20, nl_21, nl_22, nl_23, nl_24, nl_25, nl_26, nl_27, nl_28, nl_29, nl_30, nl_32, nl_33, nl_34, nl_35, nl_36, nl_37, nl_38, nl_39, nl_40, nl_41, nl_42, nl_43, nl_44, nl_45, nl_46, nl_47, nl_48, nl_49, nl_50, nl_51, nl_52, nl_53, nl_54, nl_55, nl_56, nl_57, nl_58, nl_59, nl_60, nl_61, nl_62, nl_64, nl_65, nl_66, nl_67, nl_68, nl_69, nl_92, nl_97, nl_99, nl_100, nl_122, nl_127, nl_128, nl_131, nl_132, nl_150, nl_200, nl_255, nl_256, nl_300, nl_342, nl_380, nl_381, nl_400, nl_401, nl_420, nl_500, nl_600, nl_800, nl_999, nl_1000, nl_1023, nl_1024, nl_1200, nl_2048, nl_2100, nl_4096, nl_9999, nl_10000, nl_10240, nl_999999, nl_1000000, if_pos, if_neg, hx, eA, eB, g91_54, g91_62, g91_74, mj_bf]
      · rw [hA, hB] at hq
        rw [hA] at eA; rw [hB] at eB
        rw [mj_st_t (p := wt_q x v) (k := I) (by rw [hq]; rfl)]
        simp (disch := omega) only [↓reduceIte, Bool.false_eq_true, eq_self, mj_10, mj_01, mj_n10, mj_0n1, mj_1n1, mj_n11, mj_bi_some, mj_bv_some, mj_bj_some, mj_br_some, mj_r0, mj_r1, mj_q0, mj_q1, mj_b01, mj_q2, if_true, if_false, mj_it, mj_if, true_and, and_true, false_and, and_false, not_true_eq_false, not_false_eq_true, true_or, or_true, false_or, or_false, mj_nIle, mj_nIlt, mj_nIeq, mj_nI0, mj_nIc, mj_nIadd, mj_nIs, mj_ez, mj_ze, mj_eo, mj_ltz, mj_lez, mj_zlt, mj_olt, mj_lto, mj_leo, mj_ole, mj_nIn, mj_nnI, nl_2, nl_3, nl_4, nl_5, nl_6, nl_7, nl_8, nl_9, nl_10, nl_11, nl_12, nl_13, nl_14, nl_15, nl_16, nl_17, nl_18, nl_19, nl_20, nl_21, nl_22, nl_23, nl_24, nl_25, nl_26, nl_27, nl_28, nl_29, nl_30, nl_32, nl_33, nl_34, nl_35, nl_36, nl_37, nl_38, nl_39, nl_40, nl_41, nl_42, nl_43, nl_44, nl_45, nl_46, nl_47, nl_48, nl_49, nl_50, nl_51, nl_52, nl_53, nl_54, nl_55, nl_56, nl_57, nl_58, nl_59, nl_60, nl_61, nl_62, nl_64, nl_65, nl_66, nl_67, nl_68, nl_69, nl_92, nl_97, nl_99, nl_100, nl_122, nl_127, nl_128, nl_131, nl_132, nl_150, nl_200, nl_255, nl_256, nl_300, nl_342, nl_380, nl_381, nl_400, nl_401, nl_420, nl_500, nl_600, nl_800, nl_999, nl_1000, nl_1023, nl_1024, nl_1200, nl_2048, nl_2100, nl_4096, nl_9999, nl_10000, nl_10240, nl_999999, nl_1000000, if_pos, if_neg, hx, eA, eB, g91_54, g91_62, g91_74, mj_bf, mj_bt, wl_of, hsh]
      · rw [hA, hB] at hq
        rw [hA] at eA; rw [hB] at eB
        rw [mj_st_t (p := wt_q x v) (k := I) (by rw [hq]; rfl)]
        simp (disch := omega) only [↓reduceIte, Bool.false_eq_true, eq_self, mj_10, mj_01, mj_n10, mj_0n1, mj_1n1, mj_n11, mj_bi_some, mj_bv_some, mj_bj_some, mj_br_some, mj_r0, mj_r1, mj_q0, mj_q1, mj_b01, mj_q2, if_true, if_false, mj_it, mj_if, true_and, and_true, false_and, and_false, not_true_eq_false, not_false_eq_true, true_or, or_true, false_or, or_false, mj_nIle, mj_nIlt, mj_nIeq, mj_nI0, mj_nIc, mj_nIadd, mj_nIs, mj_ez, mj_ze, mj_eo, mj_ltz, mj_lez, mj_zlt, mj_olt, mj_lto, mj_leo, mj_ole, mj_nIn, mj_nnI, nl_2, nl_3, nl_4, nl_5, nl_6, nl_7, nl_8, nl_9, nl_10, nl_11, nl_12, nl_13, nl_14, nl_15, nl_16, nl_17, nl_18, nl_19, nl_20, nl_21, nl_22, nl_23, nl_24, nl_25, nl_26, nl_27, nl_28, nl_29, nl_30, nl_32, nl_33, nl_34, nl_35, nl_36, nl_37, nl_38, nl_39, nl_40, nl_41, nl_42, nl_43, nl_44, nl_45, nl_46, nl_47, nl_48, nl_49, nl_50, nl_51, nl_52, nl_53, nl_54, nl_55, nl_56, nl_57, nl_58, nl_59, nl_60, nl_61, nl_62, nl_64, nl_65, nl_66, nl_67, nl_68, nl_69, nl_92, nl_97, nl_99, nl_100, nl_122, nl_127, nl_128, nl_131, nl_132, nl_150, nl_200, nl_255, nl_256, nl_300, nl_342, nl_380, nl_381, nl_400, nl_401, nl_420, nl_500, nl_600, nl_800, nl_999, nl_1000, nl_1023, nl_1024, nl_1200, nl_2048, nl_2100, nl_4096, nl_9999, nl_10000, nl_10240, nl_999999, nl_1000000, if_pos, if_neg, hx, eA, eB, g91_54, g91_62, g91_74, mj_bf, mj_bt, wl_of, hsh]
      · rw [hA, hB] at hq
        rw [hA] at eA; rw [hB] at eB
        rw [mj_st_f (p := wt_q x v) (k := I) (by rw [hq]; decide)]
        simp (disch := omega) only [↓reduceIte, Bool.false_eq_true, eq_self, mj_10, mj_01, mj_n10, mj_0n1, mj_1n1, mj_n11, mj_bi_some, mj_bv_some, mj_bj_some, mj_br_some, mj_r0, mj_r1, mj_q0, mj_q1, mj_b01, mj_q2, if_true, if_false, mj_it, mj_if, true_and, and_true, false_and, and_false, not_true_eq_false, not_false_eq_true, true_or, or_true, false_or, or_false, mj_nIle, mj_nIlt, mj_nIeq, mj_nI0, mj_nIc, mj_nIadd, mj_nIs, mj_ez, mj_ze, mj_eo, mj_ltz, mj_lez, mj_zlt, mj_olt, mj_lto, mj_leo, mj_ole, mj_nIn, mj_nnI, nl_2, nl_3, nl_4, nl_5, nl_6, nl_7, nl_8, nl_9, nl_10, nl_11, nl_12, nl_13, nl_14, nl_15, nl_16, nl_17, nl_18, nl_19, nl_20, nl_21, nl_22, nl_23, nl_24, nl_25, nl_26, nl_27, nl_28, nl_29, nl_30, nl_32, nl_33, nl_34, nl_35, nl_36, nl_37, nl_38, nl_39, nl_40, nl_41, nl_42, nl_43, nl_44, nl_45, nl_46, nl_47, nl_48, nl_49, nl_50, nl_51, nl_52, nl_53, nl_54, nl_55, nl_56, nl_57, nl_58, nl_59, nl_60, nl_61, nl_62, nl_64, nl_65, nl_66, nl_67, nl_68, nl_69, nl_92, nl_97, nl_99, nl_100, nl_122, nl_127, nl_128, nl_131, nl_132, nl_150, nl_200, nl_255, nl_256, nl_300, nl_342, nl_380, nl_381, nl_400, nl_401, nl_420, nl_500, nl_600, nl_800, nl_999, nl_1000, nl_1023, nl_1024, nl_1200, nl_2048, nl_2100, nl_4096, nl_9999, nl_10000, nl_10240, nl_999999, nl_1000000, if_pos, if_neg, hx, eA, eB, g91_54, g91_62, g91_74, mj_bt]
    · show mj_den mj_P E (d + 1) 91 32 [.ref 189, .int (nI n), .ref 38, .int (nI v), .long (lN (mj_st (wt_q x v) (wt_tri (k + 1) + (k + 1)))), .float 0, .int (nI (wt_tri (k + 1) + (k + 1))), .int (nI (k + 1)), .int (nI (k + 1))] [] (mj_hw w c hi hl) = _
      rw [g91_32, if_pos (Int32.le_refl _), g91_83, mj_nIs]
theorem s_couples {x : Nat → Nat} {n : Nat} (hn : n ≤ 10) (hx : ∀ v, v < 8 → hi 38 v = nI (x v) ∧ x v < 1024) : ∃ hl', mj_dc mj_P E (d + 2) 91 [.ref 189, .int (nI n), .ref 38] (mj_hw w c hi hl) = some (none, mj_hw w c hi hl') ∧ ∀ v, v < 8 → hl' 191 v = lN (wt_cp x n v) := by
  rw [xg91, g91_0]
  have key := lp_ex (fun v (s : Value × Value × Value × Value × (Nat → Nat → Int64)) => mj_den mj_P E (d + 1) 91 2 [.ref 189, .int (nI n), .ref 38, .int (nI v), s.1, .float 0, s.2.1, s.2.2.1, s.2.2.2.1] [] (mj_hw w c hi s.2.2.2.2)) (fun v s => ∀ j, j < v → s.2.2.2.2 191 j = lN (wt_cp x n j)) 8 (fun v s hv hI => ?_) (.float 0, .float 0, .float 0, .float 0, hl) (fun j hj => absurd hj (by omega))
  · obtain ⟨⟨u4, u6, u7, u8, hl'⟩, e, h⟩ := key
    refine ⟨hl', ?_, h⟩
    refine Eq.trans e ?_
    show mj_den mj_P E (d + 1) 91 2 [.ref 189, .int (nI n), .ref 38, .int (nI 8), u4, .float 0, u6, u7, u8] [] (mj_hw w c hi hl') = _
    rw [g91_2, if_pos (by decide), g91_103]
  · obtain ⟨u4, u6, u7, u8, hl1⟩ := s
    simp only at hI
    obtain ⟨x1, x2⟩ := hx v hv
    obtain ⟨v6, v7, u8', e⟩ := s_couple (E := E) (d := d) (w := w) (c := c) (hl := hl1) hn hv x1 x2 u8
    refine ⟨(.long (lN (wt_cp x n v)), .int v6, .int v7, u8', mj_u hl1 191 v (lN (wt_cp x n v))), ?_, fun j hj => ?_⟩
    · show mj_den mj_P E (d + 1) 91 2 [.ref 189, .int (nI n), .ref 38, .int (nI v), u4, .float 0, u6, u7, u8] [] (mj_hw w c hi hl1) = mj_den mj_P E (d + 1) 91 2 [.ref 189, .int (nI n), .ref 38, .int (nI (v + 1)), .long (lN (wt_cp x n v)), .float 0, .int v6, .int v7, u8'] [] (mj_hw w c hi (mj_u hl1 191 v (lN (wt_cp x n v))))
      have h8 : Int32.ofNat 8 = nI 8 := rfl
      rw [g91_2, wl_of, h8]
      simp (disch := omega) only [↓reduceIte, Bool.false_eq_true, eq_self, mj_10, mj_01, mj_n10, mj_0n1, mj_1n1, mj_n11, mj_bi_some, mj_bv_some, mj_bj_some, mj_br_some, mj_r0, mj_r1, mj_q0, mj_q1, mj_b01, mj_q2, if_true, if_false, mj_it, mj_if, true_and, and_true, false_and, and_false, not_true_eq_false, not_false_eq_true, true_or, or_true, false_or, or_false, mj_nIle, mj_nIlt, mj_nIeq, mj_nI0, mj_nIc, mj_nIadd, mj_nIs, mj_ez, mj_ze, mj_eo, mj_ltz, mj_lez, mj_zlt, mj_olt, mj_lto, mj_leo, mj_ole, mj_nIn, mj_nnI, nl_2, nl_3, nl_4, nl_5, nl_6, nl_7, nl_8, nl_9, nl_10, nl_11, nl_12, nl_13, nl_14, nl_15, nl_16, nl_17, nl_18, nl_19, nl_20, nl_21, nl_22, nl_23, nl_24, nl_25, nl_26, nl_27, nl_28, nl_29, nl_30, nl_32, nl_33, nl_34, nl_35, nl_36, nl_37, nl_38, nl_39, nl_40, nl_41, nl_42, nl_43, nl_44, nl_45, nl_46, nl_47, nl_48, nl_49, nl_50, nl_51, nl_52, nl_53, nl_54, nl_55, nl_56, nl_57, nl_58, nl_59, nl_60, nl_61, nl_62, nl_64, nl_65, nl_66, nl_67, nl_68, nl_69, nl_92, nl_97, nl_99, nl_100, nl_122, nl_127, nl_128, nl_131, nl_132, nl_150, nl_200, nl_255, nl_256, nl_300, nl_342, nl_380, nl_381, nl_400, nl_401, nl_420, nl_500, nl_600, nl_800, nl_999, nl_1000, nl_1023, nl_1024, nl_1200, nl_2048, nl_2100, nl_4096, nl_9999, nl_10000, nl_10240, nl_999999, nl_1000000, if_pos, if_neg, e, g91_89]
    · show mj_u hl1 191 v (lN (wt_cp x n v)) 191 j = _
      unfold mj_u
      by_cases hjv : j = v
      · subst hjv; rw [if_pos ⟨rfl, rfl⟩]
      · rw [if_neg (fun z => hjv z.2)]; exact hI j (by omega)
theorem s_toldX {x : Nat → Nat} {n s : Nat} (hn : n ≤ 10) (hs : s < 256) (hx : ∀ v, v < 8 → hl 191 v = lN (wt_cp x n v)) : mj_dc mj_P E (d + 2) 92 [.ref 189, .int (nI s)] (mj_hw w c hi hl) = some (some (.long (lN (wc_u (wt_cp x n) s 8))), mj_hw w c hi hl) := by
  rw [e92, q92_0, wl_of]
  refine (lp_up (fun v => mj_den mj_P E (d + 1) 92 5 [.ref 189, .int (nI s), .long (lN (wc_u (wt_cp x n) s v)), .float 0, .int (nI v)] [] (mj_hw w c hi hl)) 8 (fun v hv => ?_)).trans ?_
  · show mj_den mj_P E (d + 1) 92 5 [.ref 189, .int (nI s), .long (lN (wc_u (wt_cp x n) s v)), .float 0, .int (nI v)] [] (mj_hw w c hi hl) = mj_den mj_P E (d + 1) 92 5 [.ref 189, .int (nI s), .long (lN (wc_u (wt_cp x n) s (v + 1))), .float 0, .int (nI (v + 1))] [] (mj_hw w c hi hl)
    have hxv := hx v hv
    have h1 : wc_u (wt_cp x n) s v < 2 ^ 64 := Nat.lt_of_lt_of_le (wc_u_lt (b := 45) (fun i _ => wt_cp_lt x hn i)) (by decide)
    have h2 : wt_cp x n v < 2 ^ 64 := Nat.lt_of_lt_of_le (wt_cp_lt x hn v) (by decide)
    rw [q92_5, wc_u_s]
    by_cases hb : s.testBit v = true
    · simp (disch := omega) only [↓reduceIte, Bool.false_eq_true, eq_self, mj_10, mj_01, mj_n10, mj_0n1, mj_1n1, mj_n11, mj_bi_some, mj_bv_some, mj_bj_some, mj_br_some, mj_r0, mj_r1, mj_q0, mj_q1, mj_b01, mj_q2, if_true, if_false, mj_it, mj_if, true_and, and_true, false_and, and_false, not_true_eq_false, not_false_eq_true, true_or, or_true, false_or, or_false, mj_nIle, mj_nIlt, mj_nIeq, mj_nI0, mj_nIc, mj_nIadd, mj_nIs, mj_ez, mj_ze, mj_eo, mj_ltz, mj_lez, mj_zlt, mj_olt, mj_lto, mj_leo, mj_ole, mj_nIn, mj_nnI, nl_2, nl_3, nl_4, nl_5, nl_6, nl_7, nl_8, nl_9, nl_10, nl_11, nl_12, nl_13, nl_14, nl_15, nl_16, nl_17, nl_18, nl_19, nl_20, nl_21, nl_22, nl_23, nl_24, nl_25, nl_26, nl_27, nl_28, nl_29, nl_30, nl_32, nl_33, nl_34, nl_35, nl_36, nl_37, nl_38, nl_39, nl_40, nl_41, nl_42, nl_43, nl_44, nl_45, nl_46, nl_47, nl_48, nl_49, nl_50, nl_51, nl_52, nl_53, nl_54, nl_55, nl_56, nl_57, nl_58, nl_59, nl_60, nl_61, nl_62, nl_64, nl_65, nl_66, nl_67, nl_68, nl_69, nl_92, nl_97, nl_99, nl_100, nl_122, nl_127, nl_128, nl_131, nl_132, nl_150, nl_200, nl_255, nl_256, nl_300, nl_342, nl_380, nl_381, nl_400, nl_401, nl_420, nl_500, nl_600, nl_800, nl_999, nl_1000, nl_1023, nl_1024, nl_1200, nl_2048, nl_2100, nl_4096, nl_9999, nl_10000, nl_10240, nl_999999, nl_1000000, if_pos, if_neg, s_hX, hb, q92_18, q92_31, hxv, wb_or h1 h2]
    · simp (disch := omega) only [↓reduceIte, Bool.false_eq_true, eq_self, mj_10, mj_01, mj_n10, mj_0n1, mj_1n1, mj_n11, mj_bi_some, mj_bv_some, mj_bj_some, mj_br_some, mj_r0, mj_r1, mj_q0, mj_q1, mj_b01, mj_q2, if_true, if_false, mj_it, mj_if, true_and, and_true, false_and, and_false, not_true_eq_false, not_false_eq_true, true_or, or_true, false_or, or_false, mj_nIle, mj_nIlt, mj_nIeq, mj_nI0, mj_nIc, mj_nIadd, mj_nIs, mj_ez, mj_ze, mj_eo, mj_ltz, mj_lez, mj_zlt, mj_olt, mj_lto, mj_leo, mj_ole, mj_nIn, mj_nnI, nl_2, nl_3, nl_4, nl_5, nl_6, nl_7, nl_8, nl_9, nl_10, nl_11, nl_12, nl_13, nl_14, nl_15, nl_16, nl_17, nl_18, nl_19, nl_20, nl_21, nl_22, nl_23, nl_24, nl_25, nl_26, nl_27, nl_28, nl_29, nl_30, nl_32, nl_33, nl_34, nl_35, nl_36, nl_37, nl_38, nl_39, nl_40, nl_41, nl_42, nl_43, nl_44, nl_45, nl_46, nl_47, nl_48, nl_49, nl_50, nl_51, nl_52, nl_53, nl_54, nl_55, nl_56, nl_57, nl_58, nl_59, nl_60, nl_61, nl_62, nl_64, nl_65, nl_66, nl_67, nl_68, nl_69, nl_92, nl_97, nl_99, nl_100, nl_122, nl_127, nl_128, nl_131, nl_132, nl_150, nl_200, nl_255, nl_256, nl_300, nl_342, nl_380, nl_381, nl_400, nl_401, nl_420, nl_500, nl_600, nl_800, nl_999, nl_1000, nl_1023, nl_1024, nl_1200, nl_2048, nl_2100, nl_4096, nl_9999, nl_10000, nl_10240, nl_999999, nl_1000000, if_pos, if_neg, s_hX, hb, q92_18, q92_31, Nat.or_zero]
  · show mj_den mj_P E (d + 1) 92 5 _ _ _ = _
    rw [q92_5, if_pos (by decide), q92_37]
theorem s_apart {x : Nat → Nat} {s a b : Nat} (ha : a < 10) (hb : b < 10) (hs : s < 256) (hx : ∀ v, v < 8 → hi 233 v = nI (x v) ∧ x v < 1024) : mj_dc mj_P E (d + 2) 268 [.ref 205, .int (nI a), .int (nI b), .int (nI s)] (mj_hw w c hi hl) = some (some (.int (if wt_any x s a b 8 = true then 1 else 0)), mj_hw w c hi hl) := by
  have hstep : ∀ v, v < 8 → mj_den mj_P E (d + 1) 268 3 [.ref 205, .int (nI a), .int (nI b), .int (nI s), .int (nI v)] [] (mj_hw w c hi hl) = if s.testBit v = true ∧ ((x v).testBit a != (x v).testBit b) = true then some (some (.int 1), mj_hw w c hi hl) else mj_den mj_P E (d + 1) 268 3 [.ref 205, .int (nI a), .int (nI b), .int (nI s), .int (nI (v + 1))] [] (mj_hw w c hi hl) := by
    intro v hv
    obtain ⟨x1, x2⟩ := hx v hv
    have eA : mj_dc mj_P E (d + 1) 157 [.ref 205, .int (nI (x v)), .int (nI a)] (mj_hw w c hi hl) = _ := s_hM (d := d) (s := x v) (k := a) (by omega) (by omega)
    have eB : mj_dc mj_P E (d + 1) 157 [.ref 205, .int (nI (x v)), .int (nI b)] (mj_hw w c hi hl) = _ := s_hM (d := d) (s := x v) (k := b) (by omega) (by omega)
    have eS : mj_dc mj_P E (d + 1) 157 [.ref 205, .int (nI s), .int (nI v)] (mj_hw w c hi hl) = _ := s_hM (d := d) (s := s) (k := v) (by omega) (by omega)
    rw [q268_3]
    by_cases hb' : s.testBit v = true
    · rw [hb'] at eS
      cases hA : (x v).testBit a <;> cases hB : (x v).testBit b <;> rw [hA] at eA <;> rw [hB] at eB <;> simp (disch := omega) only [↓reduceIte, Bool.false_eq_true, eq_self, mj_10, mj_01, mj_n10, mj_0n1, mj_1n1, mj_n11, mj_bi_some, mj_bv_some, mj_bj_some, mj_br_some, mj_r0, mj_r1, mj_q0, mj_q1, mj_b01, mj_q2, if_true, if_false, mj_it, mj_if, true_and, and_true, false_and, and_false, not_true_eq_false, not_false_eq_true, true_or, or_true, false_or, or_false, mj_nIle, mj_nIlt, mj_nIeq, mj_nI0, mj_nIc, mj_nIadd, mj_nIs, mj_ez, mj_ze, mj_eo, mj_ltz, mj_lez, mj_zlt, mj_olt, mj_lto, mj_leo, mj_ole, mj_nIn, mj_nnI, nl_2, nl_3, nl_4, nl_5, nl_6, nl_7, nl_8, nl_9, nl_10, nl_11, nl_12, nl_13, nl_14, nl_15, nl_16, nl_17, nl_18, nl_19, nl_20, nl_21, nl_22, nl_23, nl_24, nl_25, nl_26, nl_27, nl_28, nl_29, nl_30, nl_32, nl_33, nl_34, nl_35, nl_36, nl_37, nl_38, nl_39, nl_40, nl_41, nl_42, nl_43, nl_44, nl_45, nl_46, nl_47, nl_48, nl_49, nl_50, nl_51, nl_52, nl_53, nl_54, nl_55, nl_56, nl_57, nl_58, nl_59, nl_60, nl_61, nl_62, nl_64, nl_65, nl_66, nl_67, nl_68, nl_69, nl_92, nl_97, nl_99, nl_100, nl_122, nl_127, nl_128, nl_131, nl_132, nl_150, nl_200, nl_255, nl_256, nl_300, nl_342, nl_380, nl_381, nl_400, nl_401, nl_420, nl_500, nl_600, nl_800, nl_999, nl_1000, nl_1023, nl_1024, nl_1200, nl_2048, nl_2100, nl_4096, nl_9999, nl_10000, nl_10240, nl_999999, nl_1000000, if_pos, if_neg, eS, eA, eB, hb', q268_17, q268_32, q268_44, q268_49, x1, mj_bf, mj_bt, bne_self_eq_false, Bool.bne_true, Bool.bne_false, Bool.not_false, Bool.not_true, and_self, and_true, and_false]
    · have hb2 : s.testBit v = false := by simpa using hb'
      rw [hb2] at eS
      simp (disch := omega) only [↓reduceIte, Bool.false_eq_true, eq_self, mj_10, mj_01, mj_n10, mj_0n1, mj_1n1, mj_n11, mj_bi_some, mj_bv_some, mj_bj_some, mj_br_some, mj_r0, mj_r1, mj_q0, mj_q1, mj_b01, mj_q2, if_true, if_false, mj_it, mj_if, true_and, and_true, false_and, and_false, not_true_eq_false, not_false_eq_true, true_or, or_true, false_or, or_false, mj_nIle, mj_nIlt, mj_nIeq, mj_nI0, mj_nIc, mj_nIadd, mj_nIs, mj_ez, mj_ze, mj_eo, mj_ltz, mj_lez, mj_zlt, mj_olt, mj_lto, mj_leo, mj_ole, mj_nIn, mj_nnI, nl_2, nl_3, nl_4, nl_5, nl_6, nl_7, nl_8, nl_9, nl_10, nl_11, nl_12, nl_13, nl_14, nl_15, nl_16, nl_17, nl_18, nl_19, nl_20, nl_21, nl_22, nl_23, nl_24, nl_25, nl_26, nl_27, nl_28, nl_29, nl_30, nl_32, nl_33, nl_34, nl_35, nl_36, nl_37, nl_38, nl_39, nl_40, nl_41, nl_42, nl_43, nl_44, nl_45, nl_46, nl_47, nl_48, nl_49, nl_50, nl_51, nl_52, nl_53, nl_54, nl_55, nl_56, nl_57, nl_58, nl_59, nl_60, nl_61, nl_62, nl_64, nl_65, nl_66, nl_67, nl_68, nl_69, nl_92, nl_97, nl_99, nl_100, nl_122, nl_127, nl_128, nl_131, nl_132, nl_150, nl_200, nl_255, nl_256, nl_300, nl_342, nl_380, nl_381, nl_400, nl_401, nl_420, nl_500, nl_600, nl_800, nl_999, nl_1000, nl_1023, nl_1024, nl_1200, nl_2048, nl_2100, nl_4096, nl_9999, nl_10000, nl_10240, nl_999999, nl_1000000, if_pos, if_neg, eS, hb2, q268_17, q268_49, mj_bf]
  rw [e268, q268_0]
  rcases lp_fst (fun v => s.testBit v = true ∧ ((x v).testBit a != (x v).testBit b) = true) 8 with hno | ⟨v, hv, hyes, hno⟩
  · have h1 : ¬ wt_any x s a b 8 = true := by
      rw [wt_any_iff]; rintro ⟨v, h1, h2, h3⟩; exact hno v h1 ⟨h2, h3⟩
    rw [if_neg h1]
    refine (lp_up (fun v => mj_den mj_P E (d + 1) 268 3 [.ref 205, .int (nI a), .int (nI b), .int (nI s), .int (nI v)] [] (mj_hw w c hi hl)) 8 (fun v hv => ?_)).trans ?_
    · show mj_den mj_P E (d + 1) 268 3 [.ref 205, .int (nI a), .int (nI b), .int (nI s), .int (nI v)] [] (mj_hw w c hi hl) = _
      rw [hstep v hv, if_neg (hno v hv)]
    · show mj_den mj_P E (d + 1) 268 3 _ _ _ = _
      rw [q268_3, if_pos (by decide), q268_55, mj_r0]
  · have h1 : wt_any x s a b 8 = true := by rw [wt_any_iff]; exact ⟨v, hv, hyes.1, hyes.2⟩
    rw [if_pos h1]
    refine (lp_up (fun v => mj_den mj_P E (d + 1) 268 3 [.ref 205, .int (nI a), .int (nI b), .int (nI s), .int (nI v)] [] (mj_hw w c hi hl)) v (fun k hk => ?_)).trans ?_
    · show mj_den mj_P E (d + 1) 268 3 [.ref 205, .int (nI a), .int (nI b), .int (nI s), .int (nI k)] [] (mj_hw w c hi hl) = _
      rw [hstep k (by omega), if_neg (hno k hk)]
    · show mj_den mj_P E (d + 1) 268 3 _ _ _ = _
      rw [hstep v hv, if_pos hyes]
theorem s_toldM {x : Nat → Nat} {n s : Nat} (hn : n ≤ 10) (hs : s < 256) (h0 : hi 205 6 = nI n) (hx : ∀ v, v < 8 → hi 233 v = nI (x v) ∧ x v < 1024) : mj_dc mj_P E (d + 3) 269 [.ref 205, .int (nI s)] (mj_hw w c hi hl) = some (some (.int (nI (wt_N x n s))), mj_hw w c hi hl) := by
  rw [xg269, g269_0]
  have key := lp_ex (fun a (u : Value) => mj_den mj_P E (d + 2) 269 4 [.ref 205, .int (nI s), .int (nI (wt_S (fun a b => wt_any x s a b 8) n a)), .int (nI a), u] [] (mj_hw w c hi hl)) (fun _ _ => True) n (fun a u ha _ => ⟨.int (nI n), ?_, trivial⟩) (.float 0) trivial
  · obtain ⟨u, e, _⟩ := key
    refine Eq.trans e ?_
    show mj_den mj_P E (d + 2) 269 4 [.ref 205, .int (nI s), .int (nI (wt_S (fun a b => wt_any x s a b 8) n n)), .int (nI n), u] [] (mj_hw w c hi hl) = _
    rw [g269_4, h0, if_pos (Int32.le_refl _), g269_53]; rfl
  · show mj_den mj_P E (d + 2) 269 4 [.ref 205, .int (nI s), .int (nI (wt_S (fun a b => wt_any x s a b 8) n a)), .int (nI a), u] [] (mj_hw w c hi hl) = mj_den mj_P E (d + 2) 269 4 [.ref 205, .int (nI s), .int (nI (wt_S (fun a b => wt_any x s a b 8) n a + iv_cnt (fun b => decide (a < b) && wt_any x s a b 8) n)), .int (nI (a + 1)), .int (nI n)] [] (mj_hw w c hi hl)
    rw [g269_4, h0, if_neg (by rw [mj_nIle (by omega) (by omega)]; omega), mj_nIs]
    have e0 : wt_S (fun a b => wt_any x s a b 8) n a = wt_S (fun a b => wt_any x s a b 8) n a + iv_cnt (fun b => decide (a < b) && wt_any x s a b 8) (a + 1) := by
      rw [iv_cnt_zero (p := fun b => decide (a < b) && wt_any x s a b 8) (n := a + 1) (fun i hi => by rw [decide_eq_false (by omega)]; rfl), Nat.add_zero]
    generalize wt_S (fun a b => wt_any x s a b 8) n a = B at e0
    refine Eq.trans (congrArg (fun z => mj_den mj_P E (d + 2) 269 17 [.ref 205, .int (nI s), .int (nI z), .int (nI a), .int (nI (a + 1))] [] (mj_hw w c hi hl)) e0) ?_
    refine (lp_from (fun b => mj_den mj_P E (d + 2) 269 17 [.ref 205, .int (nI s), .int (nI (B + iv_cnt (fun b => decide (a < b) && wt_any x s a b 8) b)), .int (nI a), .int (nI b)] [] (mj_hw w c hi hl)) (a + 1) n (by omega) (fun b hb1 hb2 => ?_)).trans ?_
    · show mj_den mj_P E (d + 2) 269 17 [.ref 205, .int (nI s), .int (nI (B + iv_cnt (fun b => decide (a < b) && wt_any x s a b 8) b)), .int (nI a), .int (nI b)] [] (mj_hw w c hi hl) = mj_den mj_P E (d + 2) 269 17 [.ref 205, .int (nI s), .int (nI (B + iv_cnt (fun b => decide (a < b) && wt_any x s a b 8) (b + 1))), .int (nI a), .int (nI (b + 1))] [] (mj_hw w c hi hl)
      have eA : mj_dc mj_P E (d + 2) 268 [.ref 205, .int (nI a), .int (nI b), .int (nI s)] (mj_hw w c hi hl) = _ := s_apart (d := d) (a := a) (b := b) (by omega) (by omega) hs hx
      rw [g269_17, h0, iv_cnt_s, show decide (a < b) = true from decide_eq_true (by omega), Bool.true_and]
      by_cases h1 : wt_any x s a b 8 = true
      · rw [if_pos h1] at eA
        simp (disch := omega) only [↓reduceIte, Bool.false_eq_true, eq_self, mj_10, mj_01, mj_n10, mj_0n1, mj_1n1, mj_n11, mj_bi_some, mj_bv_some, mj_bj_some, mj_br_some, mj_r0, mj_r1, mj_q0, mj_q1, mj_b01, mj_q2, if_true, if_false, mj_it, mj_if, true_and, and_true, false_and, and_false, not_true_eq_false, not_false_eq_true, true_or, or_true, false_or, or_false, mj_nIle, mj_nIlt, mj_nIeq, mj_nI0, mj_nIc, mj_nIadd, mj_nIs, mj_ez, mj_ze, mj_eo, mj_ltz, mj_lez, mj_zlt, mj_olt, mj_lto, mj_leo, mj_ole, mj_nIn, mj_nnI, nl_2, nl_3, nl_4, nl_5, nl_6, nl_7, nl_8, nl_9, nl_10, nl_11, nl_12, nl_13, nl_14, nl_15, nl_16, nl_17, nl_18, nl_19, nl_20, nl_21, nl_22, nl_23, nl_24, nl_25, nl_26, nl_27, nl_28, nl_29, nl_30, nl_32, nl_33, nl_34, nl_35, nl_36, nl_37, nl_38, nl_39, nl_40, nl_41, nl_42, nl_43, nl_44, nl_45, nl_46, nl_47, nl_48, nl_49, nl_50, nl_51, nl_52, nl_53, nl_54, nl_55, nl_56, nl_57, nl_58, nl_59, nl_60, nl_61, nl_62, nl_64, nl_65, nl_66, nl_67, nl_68, nl_69, nl_92, nl_97, nl_99, nl_100, nl_122, nl_127, nl_128, nl_131, nl_132, nl_150, nl_200, nl_255, nl_256, nl_300, nl_342, nl_380, nl_381, nl_400, nl_401, nl_420, nl_500, nl_600, nl_800, nl_999, nl_1000, nl_1023, nl_1024, nl_1200, nl_2048, nl_2100, nl_4096, nl_9999, nl_10000, nl_10240, nl_999999, nl_1000000, if_pos, if_neg, eA, h1, g269_34, g269_41, Nat.add_assoc]
      · rw [if_neg h1] at eA
        simp (disch := omega) only [↓reduceIte, Bool.false_eq_true, eq_self, mj_10, mj_01, mj_n10, mj_0n1, mj_1n1, mj_n11, mj_bi_some, mj_bv_some, mj_bj_some, mj_br_some, mj_r0, mj_r1, mj_q0, mj_q1, mj_b01, mj_q2, if_true, if_false, mj_it, mj_if, true_and, and_true, false_and, and_false, not_true_eq_false, not_false_eq_true, true_or, or_true, false_or, or_false, mj_nIle, mj_nIlt, mj_nIeq, mj_nI0, mj_nIc, mj_nIadd, mj_nIs, mj_ez, mj_ze, mj_eo, mj_ltz, mj_lez, mj_zlt, mj_olt, mj_lto, mj_leo, mj_ole, mj_nIn, mj_nnI, nl_2, nl_3, nl_4, nl_5, nl_6, nl_7, nl_8, nl_9, nl_10, nl_11, nl_12, nl_13, nl_14, nl_15, nl_16, nl_17, nl_18, nl_19, nl_20, nl_21, nl_22, nl_23, nl_24, nl_25, nl_26, nl_27, nl_28, nl_29, nl_30, nl_32, nl_33, nl_34, nl_35, nl_36, nl_37, nl_38, nl_39, nl_40, nl_41, nl_42, nl_43, nl_44, nl_45, nl_46, nl_47, nl_48, nl_49, nl_50, nl_51, nl_52, nl_53, nl_54, nl_55, nl_56, nl_57, nl_58, nl_59, nl_60, nl_61, nl_62, nl_64, nl_65, nl_66, nl_67, nl_68, nl_69, nl_92, nl_97, nl_99, nl_100, nl_122, nl_127, nl_128, nl_131, nl_132, nl_150, nl_200, nl_255, nl_256, nl_300, nl_342, nl_380, nl_381, nl_400, nl_401, nl_420, nl_500, nl_600, nl_800, nl_999, nl_1000, nl_1023, nl_1024, nl_1200, nl_2048, nl_2100, nl_4096, nl_9999, nl_10000, nl_10240, nl_999999, nl_1000000, if_pos, if_neg, eA, h1, g269_34, g269_41, Nat.add_zero]
    · show mj_den mj_P E (d + 2) 269 17 [.ref 205, .int (nI s), .int (nI (B + iv_cnt (fun b => decide (a < b) && wt_any x s a b 8) n)), .int (nI a), .int (nI n)] [] (mj_hw w c hi hl) = _
      rw [g269_17, h0, if_pos (Int32.le_refl _), g269_47, mj_nIs]
theorem s_fewX {x : Nat → Nat} {n S : Nat} (hn : n ≤ 10) (hS : mj_nth (mj_CL c) S = (101, 4096)) (hS2 : 242 ≤ S) (hx : ∀ v, v < 8 → hl 191 v = lN (wt_cp x n v)) (h0 : hl S 0 = lN 0) : ∃ hl', mj_den mj_P E (d + 1) 93 26 [.ref 189, .ref S, .int (nI 255), .long (lN (wc_u (wt_cp x n) 255 8)), .float 0, .int (nI 8), .int 0, .float 0] [] (mj_hw w c hi hl) = some (some (.int (nI (wt_few x n 256))), mj_hw w c hi hl') := by
  have h64 : ∀ s, wc_u (wt_cp x n) s 8 < 2 ^ 64 := fun s => Nat.lt_of_lt_of_le (wt_U_lt x hn s) (by decide)
  have key := lp_ex (fun s (q : Value × (Nat → Nat → Int64)) => mj_den mj_P E (d + 1) 93 26 [.ref 189, .ref S, .int (nI 255), .long (lN (wc_u (wt_cp x n) 255 8)), .float 0, .int (nI (wt_few x n s)), .int (nI s), q.1] [] (mj_hw w c hi q.2)) (fun s q => (∀ t, t < s → q.2 S t = lN (wc_u (wt_cp x n) t 8)) ∧ q.2 S 0 = lN 0 ∧ ∀ a k, a ≠ S → q.2 a k = hl a k) 256 (fun s q hs hI => ?_) (.float 0, hl) ⟨fun t ht => absurd ht (by omega), h0, fun _ _ _ => rfl⟩
  · obtain ⟨⟨u, hl'⟩, e, _⟩ := key
    refine ⟨hl', ?_⟩
    refine Eq.trans e ?_
    show mj_den mj_P E (d + 1) 93 26 [.ref 189, .ref S, .int (nI 255), .long (lN (wc_u (wt_cp x n) 255 8)), .float 0, .int (nI (wt_few x n 256)), .int (nI 256), u] [] (mj_hw w c hi hl') = _
    rw [g93_26 hS, if_pos (by decide), g93_101 hS]
  · obtain ⟨u, g⟩ := q
    obtain ⟨g1, g2, g3⟩ := hI
    simp only at g1 g2 g3
    have hA : ∃ g' v7', mj_den mj_P E (d + 1) 93 26 [.ref 189, .ref S, .int (nI 255), .long (lN (wc_u (wt_cp x n) 255 8)), .float 0, .int (nI (wt_few x n s)), .int (nI s), u] [] (mj_hw w c hi g) = mj_den mj_P E (d + 1) 93 74 [.ref 189, .ref S, .int (nI 255), .long (lN (wc_u (wt_cp x n) 255 8)), .float 0, .int (nI (wt_few x n s)), .int (nI s), .int v7'] [] (mj_hw w c hi g') ∧ (∀ t, t < s + 1 → g' S t = lN (wc_u (wt_cp x n) t 8)) ∧ g' S 0 = lN 0 ∧ ∀ a k, a ≠ S → g' a k = hl a k := by
      have e4096 : Int32.ofNat 4096 = nI 4096 := rfl
      by_cases hs0 : s = 0
      · subst hs0
        refine ⟨g, nI 32, ?_, fun t ht => ?_, g2, g3⟩
        · have ez : mj_dc mj_P E (d + 1) 292 [.int (nI 0)] (mj_hw w c hi g) = some (some (.int (nI 32)), mj_hw w c hi g) := s_tz (s := 0) (by omega)
          rw [g93_26 hS, e4096]
          simp (disch := omega) only [↓reduceIte, Bool.false_eq_true, eq_self, mj_10, mj_01, mj_n10, mj_0n1, mj_1n1, mj_n11, mj_bi_some, mj_bv_some, mj_bj_some, mj_br_some, mj_r0, mj_r1, mj_q0, mj_q1, mj_b01, mj_q2, if_true, if_false, mj_it, mj_if, true_and, and_true, false_and, and_false, not_true_eq_false, not_false_eq_true, true_or, or_true, false_or, or_false, mj_nIle, mj_nIlt, mj_nIeq, mj_nI0, mj_nIc, mj_nIadd, mj_nIs, mj_ez, mj_ze, mj_eo, mj_ltz, mj_lez, mj_zlt, mj_olt, mj_lto, mj_leo, mj_ole, mj_nIn, mj_nnI, nl_2, nl_3, nl_4, nl_5, nl_6, nl_7, nl_8, nl_9, nl_10, nl_11, nl_12, nl_13, nl_14, nl_15, nl_16, nl_17, nl_18, nl_19, nl_20, nl_21, nl_22, nl_23, nl_24, nl_25, nl_26, nl_27, nl_28, nl_29, nl_30, nl_32, nl_33, nl_34, nl_35, nl_36, nl_37, nl_38, nl_39, nl_40, nl_41, nl_42, nl_43, nl_44, nl_45, nl_46, nl_47, nl_48, nl_49, nl_50, nl_51, nl_52, nl_53, nl_54, nl_55, nl_56, nl_57, nl_58, nl_59, nl_60, nl_61, nl_62, nl_64, nl_65, nl_66, nl_67, nl_68, nl_69, nl_92, nl_97, nl_99, nl_100, nl_122, nl_127, nl_128, nl_131, nl_132, nl_150, nl_200, nl_255, nl_256, nl_300, nl_342, nl_380, nl_381, nl_400, nl_401, nl_420, nl_500, nl_600, nl_800, nl_999, nl_1000, nl_1023, nl_1024, nl_1200, nl_2048, nl_2100, nl_4096, nl_9999, nl_10000, nl_10240, nl_999999, nl_1000000, if_pos, if_neg, ez, g93_44 hS]
        · rw [show t = 0 by omega, wc_u0, g2]
      · have ht := wc_tzm (m := 8) (by omega) hs hs0
        have hlt := (mj_pc_dec s (by omega) hs0).2
        have hw := wc_step (x := wt_cp x n) (m := 8) (by omega) hs hs0
        have gR : g 191 (mj_tz s) = lN (wt_cp x n (mj_tz s)) := by rw [g3 _ _ (by omega)]; exact hx _ ht
        have gs := g1 (s &&& (s - 1)) (by omega)
        have hor : lN (wc_u (wt_cp x n) (s &&& (s - 1)) 8) ||| lN (wt_cp x n (mj_tz s)) = lN (wc_u (wt_cp x n) s 8) := by
          rw [wb_or (h64 _) (Nat.lt_of_lt_of_le (wt_cp_lt x hn _) (by decide)), hw]
        refine ⟨mj_u g S s (lN (wc_u (wt_cp x n) s 8)), nI (mj_tz s), ?_, fun t h => ?_, ?_, fun a k ha => ?_⟩
        · have ez : mj_dc mj_P E (d + 1) 292 [.int (nI s)] (mj_hw w c hi g) = some (some (.int (nI (mj_tz s))), mj_hw w c hi g) := s_tz (s := s) (by omega)
          have e1 : nI s &&& (nI s - 1) = nI (s &&& (s - 1)) := by rw [mj_nIp (by omega), bx_and]
          rw [g93_26 hS, e4096]
          simp (disch := omega) only [↓reduceIte, Bool.false_eq_true, eq_self, mj_10, mj_01, mj_n10, mj_0n1, mj_1n1, mj_n11, mj_bi_some, mj_bv_some, mj_bj_some, mj_br_some, mj_r0, mj_r1, mj_q0, mj_q1, mj_b01, mj_q2, if_true, if_false, mj_it, mj_if, true_and, and_true, false_and, and_false, not_true_eq_false, not_false_eq_true, true_or, or_true, false_or, or_false, mj_nIle, mj_nIlt, mj_nIeq, mj_nI0, mj_nIc, mj_nIadd, mj_nIs, mj_ez, mj_ze, mj_eo, mj_ltz, mj_lez, mj_zlt, mj_olt, mj_lto, mj_leo, mj_ole, mj_nIn, mj_nnI, nl_2, nl_3, nl_4, nl_5, nl_6, nl_7, nl_8, nl_9, nl_10, nl_11, nl_12, nl_13, nl_14, nl_15, nl_16, nl_17, nl_18, nl_19, nl_20, nl_21, nl_22, nl_23, nl_24, nl_25, nl_26, nl_27, nl_28, nl_29, nl_30, nl_32, nl_33, nl_34, nl_35, nl_36, nl_37, nl_38, nl_39, nl_40, nl_41, nl_42, nl_43, nl_44, nl_45, nl_46, nl_47, nl_48, nl_49, nl_50, nl_51, nl_52, nl_53, nl_54, nl_55, nl_56, nl_57, nl_58, nl_59, nl_60, nl_61, nl_62, nl_64, nl_65, nl_66, nl_67, nl_68, nl_69, nl_92, nl_97, nl_99, nl_100, nl_122, nl_127, nl_128, nl_131, nl_132, nl_150, nl_200, nl_255, nl_256, nl_300, nl_342, nl_380, nl_381, nl_400, nl_401, nl_420, nl_500, nl_600, nl_800, nl_999, nl_1000, nl_1023, nl_1024, nl_1200, nl_2048, nl_2100, nl_4096, nl_9999, nl_10000, nl_10240, nl_999999, nl_1000000, if_pos, if_neg, ez, g93_44 hS, e1, gs, gR, hor]
        · unfold mj_u
          by_cases hts : t = s
          · subst hts; rw [if_pos ⟨rfl, rfl⟩]
          · rw [if_neg (fun z => hts z.2)]; exact g1 t (by omega)
        · unfold mj_u; rw [if_neg (by omega)]; exact g2
        · unfold mj_u; rw [if_neg (fun z => ha z.1)]; exact g3 a k ha
    obtain ⟨g', v7', eA, a1, a2, a3⟩ := hA
    have gs := a1 s (by omega)
    have bcs : mj_dc mj_P E (d + 1) 293 [.int (nI s)] (mj_hw w c hi g') = some (some (.int (nI (mj_pc 12 s))), mj_hw w c hi g') := s_bc (s := s) (by omega)
    have hcmp : (lg_cmp (lN (wc_u (wt_cp x n) s 8)) (lN (wc_u (wt_cp x n) 255 8)) = 0) = (wt_N x n s = wt_N x n 255) := by
      apply propext
      rw [lg_cmp_eq, pk_lEQ (Nat.lt_of_lt_of_le (wt_U_lt x hn s) (by decide)) (Nat.lt_of_lt_of_le (wt_U_lt x hn 255) (by decide)), wt_same x hn]
    refine ⟨(.int v7', g'), ?_, a1, a2, a3⟩
    show mj_den mj_P E (d + 1) 93 26 [.ref 189, .ref S, .int (nI 255), .long (lN (wc_u (wt_cp x n) 255 8)), .float 0, .int (nI (wt_few x n s)), .int (nI s), u] [] (mj_hw w c hi g) = mj_den mj_P E (d + 1) 93 26 [.ref 189, .ref S, .int (nI 255), .long (lN (wc_u (wt_cp x n) 255 8)), .float 0, .int (nI (wt_few x n (s + 1))), .int (nI (s + 1)), .int v7'] [] (mj_hw w c hi g')
    have hp1 := mj_pcb s
    have hp2 := wt_few_le x n s
    rw [eA, wt_few_s]
    by_cases h1 : wt_N x n s = wt_N x n 255
    · by_cases h2 : mj_pc 12 s < wt_few x n s
      · simp (disch := omega) only [g93_0 hS, g93_4 hS, g93_14 hS, g93_74 hS, g93_90 hS, g93_93 hS, g93_95 hS, g93_101 hS, ↓reduceIte, Bool.false_eq_true, eq_self, mj_10, mj_01, mj_n10, mj_0n1, mj_1n1, mj_n11, mj_bi_some, mj_bv_some, mj_bj_some, mj_br_some, mj_r0, mj_r1, mj_q0, mj_q1, mj_b01, mj_q2, if_true, if_false, mj_it, mj_if, true_and, and_true, false_and, and_false, not_true_eq_false, not_false_eq_true, true_or, or_true, false_or, or_false, mj_nIle, mj_nIlt, mj_nIeq, mj_nI0, mj_nIc, mj_nIadd, mj_nIs, mj_ez, mj_ze, mj_eo, mj_ltz, mj_lez, mj_zlt, mj_olt, mj_lto, mj_leo, mj_ole, mj_nIn, mj_nnI, nl_2, nl_3, nl_4, nl_5, nl_6, nl_7, nl_8, nl_9, nl_10, nl_11, nl_12, nl_13, nl_14, nl_15, nl_16, nl_17, nl_18, nl_19, nl_20, nl_21, nl_22, nl_23, nl_24, nl_25, nl_26, nl_27, nl_28, nl_29, nl_30, nl_32, nl_33, nl_34, nl_35, nl_36, nl_37, nl_38, nl_39, nl_40, nl_41, nl_42, nl_43, nl_44, nl_45, nl_46, nl_47, nl_48, nl_49, nl_50, nl_51, nl_52, nl_53, nl_54, nl_55, nl_56, nl_57, nl_58, nl_59, nl_60, nl_61, nl_62, nl_64, nl_65, nl_66, nl_67, nl_68, nl_69, nl_92, nl_97, nl_99, nl_100, nl_122, nl_127, nl_128, nl_131, nl_132, nl_150, nl_200, nl_255, nl_256, nl_300, nl_342, nl_380, nl_381, nl_400, nl_401, nl_420, nl_500, nl_600, nl_800, nl_999, nl_1000, nl_1023, nl_1024, nl_1200, nl_2048, nl_2100, nl_4096, nl_9999, nl_10000, nl_10240, nl_999999, nl_1000000, if_pos, if_neg, gs, hcmp, h1, bcs, s_min, h2, and_self]
      · simp (disch := omega) only [g93_0 hS, g93_4 hS, g93_14 hS, g93_74 hS, g93_90 hS, g93_93 hS, g93_95 hS, g93_101 hS, ↓reduceIte, Bool.false_eq_true, eq_self, mj_10, mj_01, mj_n10, mj_0n1, mj_1n1, mj_n11, mj_bi_some, mj_bv_some, mj_bj_some, mj_br_some, mj_r0, mj_r1, mj_q0, mj_q1, mj_b01, mj_q2, if_true, if_false, mj_it, mj_if, true_and, and_true, false_and, and_false, not_true_eq_false, not_false_eq_true, true_or, or_true, false_or, or_false, mj_nIle, mj_nIlt, mj_nIeq, mj_nI0, mj_nIc, mj_nIadd, mj_nIs, mj_ez, mj_ze, mj_eo, mj_ltz, mj_lez, mj_zlt, mj_olt, mj_lto, mj_leo, mj_ole, mj_nIn, mj_nnI, nl_2, nl_3, nl_4, nl_5, nl_6, nl_7, nl_8, nl_9, nl_10, nl_11, nl_12, nl_13, nl_14, nl_15, nl_16, nl_17, nl_18, nl_19, nl_20, nl_21, nl_22, nl_23, nl_24, nl_25, nl_26, nl_27, nl_28, nl_29, nl_30, nl_32, nl_33, nl_34, nl_35, nl_36, nl_37, nl_38, nl_39, nl_40, nl_41, nl_42, nl_43, nl_44, nl_45, nl_46, nl_47, nl_48, nl_49, nl_50, nl_51, nl_52, nl_53, nl_54, nl_55, nl_56, nl_57, nl_58, nl_59, nl_60, nl_61, nl_62, nl_64, nl_65, nl_66, nl_67, nl_68, nl_69, nl_92, nl_97, nl_99, nl_100, nl_122, nl_127, nl_128, nl_131, nl_132, nl_150, nl_200, nl_255, nl_256, nl_300, nl_342, nl_380, nl_381, nl_400, nl_401, nl_420, nl_500, nl_600, nl_800, nl_999, nl_1000, nl_1023, nl_1024, nl_1200, nl_2048, nl_2100, nl_4096, nl_9999, nl_10000, nl_10240, nl_999999, nl_1000000, if_pos, if_neg, gs, hcmp, h1, bcs, s_min, h2, and_self]
    · simp (disch := omega) only [g93_0 hS, g93_4 hS, g93_14 hS, g93_74 hS, g93_90 hS, g93_93 hS, g93_95 hS, g93_101 hS, ↓reduceIte, Bool.false_eq_true, eq_self, mj_10, mj_01, mj_n10, mj_0n1, mj_1n1, mj_n11, mj_bi_some, mj_bv_some, mj_bj_some, mj_br_some, mj_r0, mj_r1, mj_q0, mj_q1, mj_b01, mj_q2, if_true, if_false, mj_it, mj_if, true_and, and_true, false_and, and_false, not_true_eq_false, not_false_eq_true, true_or, or_true, false_or, or_false, mj_nIle, mj_nIlt, mj_nIeq, mj_nI0, mj_nIc, mj_nIadd, mj_nIs, mj_ez, mj_ze, mj_eo, mj_ltz, mj_lez, mj_zlt, mj_olt, mj_lto, mj_leo, mj_ole, mj_nIn, mj_nnI, nl_2, nl_3, nl_4, nl_5, nl_6, nl_7, nl_8, nl_9, nl_10, nl_11, nl_12, nl_13, nl_14, nl_15, nl_16, nl_17, nl_18, nl_19, nl_20, nl_21, nl_22, nl_23, nl_24, nl_25, nl_26, nl_27, nl_28, nl_29, nl_30, nl_32, nl_33, nl_34, nl_35, nl_36, nl_37, nl_38, nl_39, nl_40, nl_41, nl_42, nl_43, nl_44, nl_45, nl_46, nl_47, nl_48, nl_49, nl_50, nl_51, nl_52, nl_53, nl_54, nl_55, nl_56, nl_57, nl_58, nl_59, nl_60, nl_61, nl_62, nl_64, nl_65, nl_66, nl_67, nl_68, nl_69, nl_92, nl_97, nl_99, nl_100, nl_122, nl_127, nl_128, nl_131, nl_132, nl_150, nl_200, nl_255, nl_256, nl_300, nl_342, nl_380, nl_381, nl_400, nl_401, nl_420, nl_500, nl_600, nl_800, nl_999, nl_1000, nl_1023, nl_1024, nl_1200, nl_2048, nl_2100, nl_4096, nl_9999, nl_10000, nl_10240, nl_999999, nl_1000000, if_pos, if_neg, gs, hcmp, h1, and_false]
end MJ65
theorem cs_tells (a : Int32) : mj_Cs 137 270 [.int a] := by
  intro E d w c hi hl hE hw hI
  obtain ⟨n, l, q⟩ := iv_I_un.mp hI
  obtain ⟨n10, l12, mN, mL⟩ := iv_Jn q
  obtain ⟨⟨a0, a1, a2, a3, a4, a5, a6⟩, _⟩ := iv_JX q
  obtain ⟨x, hx⟩ := iv_puts q
  obtain ⟨hl1, eC, hC⟩ := s_couples (E := E) (d := d + 97) (w := w) (c := c) (hi := hi) (hl := hl) n10 (fun v hv => ⟨(hx v hv).2.1, (hx v hv).1⟩)
  have eC2 : mj_dc mj_P E (d + 99) 91 [.ref 189, .int (nI n), .ref 38] (mj_hw w c hi hl) = _ := eC
  by_cases hn1 : a = -1
  · subst hn1
    obtain ⟨S, c', f, hl2, eS, c4, hS2, hS, f1, f2⟩ := s_sums (E := E) (d := d + 97) (w := w) (hi := hi) (hl := hl1) hw.2.2
    have hC2 : ∀ v, v < 8 → hl2 191 v = lN (wt_cp x n v) := fun v hv => by rw [f2 _ _ (by omega)]; exact hC v hv
    have eT := s_toldX (E := E) (d := d + 96) (w := w) (c := c') (hi := f) (hl := hl2) (x := x) (s := 255) n10 (by omega) hC2
    obtain ⟨hl3, eF⟩ := s_fewX (E := E) (d := d + 97) (w := w) (c := c') (hi := f) (hl := mj_u hl2 S 0 (lN 0)) (x := x) n10 hS hS2 (fun v hv => by unfold mj_u; rw [if_neg (by omega)]; exact hC2 v hv) (if_pos ⟨rfl, rfl⟩)
    have hX : mj_dc mj_P E (d + 99) 93 [.ref 189] (mj_hw w c hi hl1) = some (some (.int (nI (wt_few x n 256))), mj_hw w c' f hl3) := by
      have eS2 : mj_dc mj_P E (d + 98) 85 [.ref 189] (mj_hw w c hi hl1) = _ := eS
      have eT2 : mj_dc mj_P E (d + 98) 92 [.ref 189, .int (nI 255)] (mj_hw w c' f hl2) = _ := eT
      rw [xg93 E (d + 98) S, mj_den_eq, f93_0]
      refine (zt_aload_n rfl rfl (zt_call0_3 (rest := []) rfl (mjkd189 _ _ _ _) (Nat.le_of_ble_eq_true rfl) rfl rfl)).trans ?_
      show mj_br (mj_dc mj_P E (d + 98) 85 [.ref 189] (mj_hw w c hi hl1)) (fun x1 h1 => mj_den mj_P E (d + 98) 93 4 [.ref 189, .float 0, .float 0, .float 0, .float 0, .float 0, .float 0, .float 0] [.ref x1] h1) = _
      rw [eS2, mj_br_some, g93_4 hS, nl_255, eT2, mj_bj_some, g93_14 hS, if_pos (by decide), wl_of]
      exact eF
    have gh : ∀ a k, a < 242 → (mj_u f 205 0 0) a k = (mj_u hi 205 0 0) a k := fun a k ha => mj_u_cong (f1 a k ha)
    have hxM : ∀ v, v < 8 → (mj_u f 205 0 0) 233 v = nI (x v) ∧ x v < 1024 := fun v hv => ⟨by rw [mj_u_pt (by omega), f1 _ _ (by omega)]; exact (hx v hv).2.2, (hx v hv).1⟩
    have mN' : (mj_u f 205 0 0) 205 6 = nI n := by rw [mj_u_pt (by omega), f1 _ _ (by omega)]; exact mN
    refine ⟨nI (wt_few x n 256), w, c', f, hl3, mj_u f 205 0 0, ?_, ?_, ?_, ⟨hw.1, hw.2.1, c4⟩⟩
    · simp (disch := omega) only [e137, q137_0, q137_19, q137_46, q137_58, q137_72, ↓reduceIte, Bool.false_eq_true, eq_self, mj_10, mj_01, mj_n10, mj_0n1, mj_1n1, mj_n11, mj_bi_some, mj_bv_some, mj_bj_some, mj_br_some, mj_r0, mj_r1, mj_q0, mj_q1, mj_b01, mj_q2, if_true, if_false, mj_it, mj_if, true_and, and_true, false_and, and_false, not_true_eq_false, not_false_eq_true, true_or, or_true, false_or, or_false, mj_nIle, mj_nIlt, mj_nIeq, mj_nI0, mj_nIc, mj_nIadd, mj_nIs, mj_ez, mj_ze, mj_eo, mj_ltz, mj_lez, mj_zlt, mj_olt, mj_lto, mj_leo, mj_ole, mj_nIn, mj_nnI, nl_2, nl_3, nl_4, nl_5, nl_6, nl_7, nl_8, nl_9, nl_10, nl_11, nl_12, nl_13, nl_14, nl_15, nl_16, nl_17, nl_18, nl_19, nl_20, nl_21, nl_22, nl_23, nl_24, nl_25, nl_26, nl_27, nl_28, nl_29, nl_30, nl_32, nl_33, nl_34, nl_35, nl_36, nl_37, nl_38, nl_39, nl_40, nl_41, nl_42, nl_43, nl_44, nl_45, nl_46, nl_47, nl_48, nl_49, nl_50, nl_51, nl_52, nl_53, nl_54, nl_55, nl_56, nl_57, nl_58, nl_59, nl_60, nl_61, nl_62, nl_64, nl_65, nl_66, nl_67, nl_68, nl_69, nl_92, nl_97, nl_99, nl_100, nl_122, nl_127, nl_128, nl_131, nl_132, nl_150, nl_200, nl_255, nl_256, nl_300, nl_342, nl_380, nl_381, nl_400, nl_401, nl_420, nl_500, nl_600, nl_800, nl_999, nl_1000, nl_1023, nl_1024, nl_1200, nl_2048, nl_2100, nl_4096, nl_9999, nl_10000, nl_10240, nl_999999, nl_1000000, if_pos, if_neg, a0, eC2, hX]
    · have eM : ∀ s, s < 256 → mj_dc mj_P E (d + 99) 269 [.ref 205, .int (nI s)] (mj_hw w c' (mj_u f 205 0 0) hl3) = some (some (.int (nI (wt_N x n s))), mj_hw w c' (mj_u f 205 0 0) hl3) := fun s hs => s_toldM (d := d + 96) n10 hs mN' hxM
      have eM255 := eM 255 (by omega)
      simp (disch := omega) only [e270, q270_0, q270_32, q270_39, ↓reduceIte, Bool.false_eq_true, eq_self, mj_10, mj_01, mj_n10, mj_0n1, mj_1n1, mj_n11, mj_bi_some, mj_bv_some, mj_bj_some, mj_br_some, mj_r0, mj_r1, mj_q0, mj_q1, mj_b01, mj_q2, if_true, if_false, mj_it, mj_if, true_and, and_true, false_and, and_false, not_true_eq_false, not_false_eq_true, true_or, or_true, false_or, or_false, mj_nIle, mj_nIlt, mj_nIeq, mj_nI0, mj_nIc, mj_nIadd, mj_nIs, mj_ez, mj_ze, mj_eo, mj_ltz, mj_lez, mj_zlt, mj_olt, mj_lto, mj_leo, mj_ole, mj_nIn, mj_nnI, nl_2, nl_3, nl_4, nl_5, nl_6, nl_7, nl_8, nl_9, nl_10, nl_11, nl_12, nl_13, nl_14, nl_15, nl_16, nl_17, nl_18, nl_19, nl_20, nl_21, nl_22, nl_23, nl_24, nl_25, nl_26, nl_27, nl_28, nl_29, nl_30, nl_32, nl_33, nl_34, nl_35, nl_36, nl_37, nl_38, nl_39, nl_40, nl_41, nl_42, nl_43, nl_44, nl_45, nl_46, nl_47, nl_48, nl_49, nl_50, nl_51, nl_52, nl_53, nl_54, nl_55, nl_56, nl_57, nl_58, nl_59, nl_60, nl_61, nl_62, nl_64, nl_65, nl_66, nl_67, nl_68, nl_69, nl_92, nl_97, nl_99, nl_100, nl_122, nl_127, nl_128, nl_131, nl_132, nl_150, nl_200, nl_255, nl_256, nl_300, nl_342, nl_380, nl_381, nl_400, nl_401, nl_420, nl_500, nl_600, nl_800, nl_999, nl_1000, nl_1023, nl_1024, nl_1200, nl_2048, nl_2100, nl_4096, nl_9999, nl_10000, nl_10240, nl_999999, nl_1000000, if_pos, if_neg, eM255]
      refine (lp_up (fun s => mj_den mj_P E (d + 99) 270 46 [.ref 205, .int (-1), .int (nI (wt_N x n 255)), .int (nI (wt_few x n s)), .int (nI s)] [] (mj_hw w c' (mj_u f 205 0 0) hl3)) 256 (fun s hs => ?_)).trans ?_
      · show mj_den mj_P E (d + 99) 270 46 [.ref 205, .int (-1), .int (nI (wt_N x n 255)), .int (nI (wt_few x n s)), .int (nI s)] [] (mj_hw w c' (mj_u f 205 0 0) hl3) = mj_den mj_P E (d + 99) 270 46 [.ref 205, .int (-1), .int (nI (wt_N x n 255)), .int (nI (wt_few x n (s + 1))), .int (nI (s + 1))] [] (mj_hw w c' (mj_u f 205 0 0) hl3)
        have e1 := eM s hs
        have hp1 := mj_pcb s
        have hp2 := wt_few_le x n s
        have hp3 := wt_Nb x n10 s
        have hp4 := wt_Nb x n10 255
        rw [q270_46, wt_few_s]
        by_cases h2 : mj_pc 12 s < wt_few x n s
        · by_cases h1 : wt_N x n s = wt_N x n 255
          · simp (disch := omega) only [q270_0, q270_19, q270_27, q270_30, q270_31, q270_32, q270_39, q270_60, q270_70, q270_80, q270_81, ↓reduceIte, Bool.false_eq_true, eq_self, mj_10, mj_01, mj_n10, mj_0n1, mj_1n1, mj_n11, mj_bi_some, mj_bv_some, mj_bj_some, mj_br_some, mj_r0, mj_r1, mj_q0, mj_q1, mj_b01, mj_q2, if_true, if_false, mj_it, mj_if, true_and, and_true, false_and, and_false, not_true_eq_false, not_false_eq_true, true_or, or_true, false_or, or_false, mj_nIle, mj_nIlt, mj_nIeq, mj_nI0, mj_nIc, mj_nIadd, mj_nIs, mj_ez, mj_ze, mj_eo, mj_ltz, mj_lez, mj_zlt, mj_olt, mj_lto, mj_leo, mj_ole, mj_nIn, mj_nnI, nl_2, nl_3, nl_4, nl_5, nl_6, nl_7, nl_8, nl_9, nl_10, nl_11, nl_12, nl_13, nl_14, nl_15, nl_16, nl_17, nl_18, nl_19, nl_20, nl_21, nl_22, nl_23, nl_24, nl_25, nl_26, nl_27, nl_28, nl_29, nl_30, nl_32, nl_33, nl_34, nl_35, nl_36, nl_37, nl_38, nl_39, nl_40, nl_41, nl_42, nl_43, nl_44, nl_45, nl_46, nl_47, nl_48, nl_49, nl_50, nl_51, nl_52, nl_53, nl_54, nl_55, nl_56, nl_57, nl_58, nl_59, nl_60, nl_61, nl_62, nl_64, nl_65, nl_66, nl_67, nl_68, nl_69, nl_92, nl_97, nl_99, nl_100, nl_122, nl_127, nl_128, nl_131, nl_132, nl_150, nl_200, nl_255, nl_256, nl_300, nl_342, nl_380, nl_381, nl_400, nl_401, nl_420, nl_500, nl_600, nl_800, nl_999, nl_1000, nl_1023, nl_1024, nl_1200, nl_2048, nl_2100, nl_4096, nl_9999, nl_10000, nl_10240, nl_999999, nl_1000000, if_pos, if_neg, s_ones, e1, h1, h2, and_self]
          · simp (disch := omega) only [q270_0, q270_19, q270_27, q270_30, q270_31, q270_32, q270_39, q270_60, q270_70, q270_80, q270_81, ↓reduceIte, Bool.false_eq_true, eq_self, mj_10, mj_01, mj_n10, mj_0n1, mj_1n1, mj_n11, mj_bi_some, mj_bv_some, mj_bj_some, mj_br_some, mj_r0, mj_r1, mj_q0, mj_q1, mj_b01, mj_q2, if_true, if_false, mj_it, mj_if, true_and, and_true, false_and, and_false, not_true_eq_false, not_false_eq_true, true_or, or_true, false_or, or_false, mj_nIle, mj_nIlt, mj_nIeq, mj_nI0, mj_nIc, mj_nIadd, mj_nIs, mj_ez, mj_ze, mj_eo, mj_ltz, mj_lez, mj_zlt, mj_olt, mj_lto, mj_leo, mj_ole, mj_nIn, mj_nnI, nl_2, nl_3, nl_4, nl_5, nl_6, nl_7, nl_8, nl_9, nl_10, nl_11, nl_12, nl_13, nl_14, nl_15, nl_16, nl_17, nl_18, nl_19, nl_20, nl_21, nl_22, nl_23, nl_24, nl_25, nl_26, nl_27, nl_28, nl_29, nl_30, nl_32, nl_33, nl_34, nl_35, nl_36, nl_37, nl_38, nl_39, nl_40, nl_41, nl_42, nl_43, nl_44, nl_45, nl_46, nl_47, nl_48, nl_49, nl_50, nl_51, nl_52, nl_53, nl_54, nl_55, nl_56, nl_57, nl_58, nl_59, nl_60, nl_61, nl_62, nl_64, nl_65, nl_66, nl_67, nl_68, nl_69, nl_92, nl_97, nl_99, nl_100, nl_122, nl_127, nl_128, nl_131, nl_132, nl_150, nl_200, nl_255, nl_256, nl_300, nl_342, nl_380, nl_381, nl_400, nl_401, nl_420, nl_500, nl_600, nl_800, nl_999, nl_1000, nl_1023, nl_1024, nl_1200, nl_2048, nl_2100, nl_4096, nl_9999, nl_10000, nl_10240, nl_999999, nl_1000000, if_pos, if_neg, s_ones, e1, h1, h2, and_self, and_false]
        · simp (disch := omega) only [q270_0, q270_19, q270_27, q270_30, q270_31, q270_32, q270_39, q270_60, q270_70, q270_80, q270_81, ↓reduceIte, Bool.false_eq_true, eq_self, mj_10, mj_01, mj_n10, mj_0n1, mj_1n1, mj_n11, mj_bi_some, mj_bv_some, mj_bj_some, mj_br_some, mj_r0, mj_r1, mj_q0, mj_q1, mj_b01, mj_q2, if_true, if_false, mj_it, mj_if, true_and, and_true, false_and, and_false, not_true_eq_false, not_false_eq_true, true_or, or_true, false_or, or_false, mj_nIle, mj_nIlt, mj_nIeq, mj_nI0, mj_nIc, mj_nIadd, mj_nIs, mj_ez, mj_ze, mj_eo, mj_ltz, mj_lez, mj_zlt, mj_olt, mj_lto, mj_leo, mj_ole, mj_nIn, mj_nnI, nl_2, nl_3, nl_4, nl_5, nl_6, nl_7, nl_8, nl_9, nl_10, nl_11, nl_12, nl_13, nl_14, nl_15, nl_16, nl_17, nl_18, nl_19, nl_20, nl_21, nl_22, nl_23, nl_24, nl_25, nl_26, nl_27, nl_28, nl_29, nl_30, nl_32, nl_33, nl_34, nl_35, nl_36, nl_37, nl_38, nl_39, nl_40, nl_41, nl_42, nl_43, nl_44, nl_45, nl_46, nl_47, nl_48, nl_49, nl_50, nl_51, nl_52, nl_53, nl_54, nl_55, nl_56, nl_57, nl_58, nl_59, nl_60, nl_61, nl_62, nl_64, nl_65, nl_66, nl_67, nl_68, nl_69, nl_92, nl_97, nl_99, nl_100, nl_122, nl_127, nl_128, nl_131, nl_132, nl_150, nl_200, nl_255, nl_256, nl_300, nl_342, nl_380, nl_381, nl_400, nl_401, nl_420, nl_500, nl_600, nl_800, nl_999, nl_1000, nl_1023, nl_1024, nl_1200, nl_2048, nl_2100, nl_4096, nl_9999, nl_10000, nl_10240, nl_999999, nl_1000000, if_pos, if_neg, s_ones, e1, h2, false_and]
      · show mj_den mj_P E (d + 99) 270 46 _ _ _ = _
        rw [q270_46, if_pos (by decide), q270_87]
    · exact iv_J_same q (fun a k h => by rw [mj_u_pt (by omega), f1 _ _ (by omega)]) (fun a k h => by rw [mj_u_pt (by omega), f1 _ _ (by omega)]) (fun k h => by rw [mj_u_pt (by omega), f1 _ _ (by omega)])
  · by_cases ha : 0 ≤ a ∧ a ≤ nI 255
    · obtain ⟨A, hA, rfl⟩ := mj_ofn ha.1
      have hA2 : A ≤ 255 := by have := ha.2; rw [mj_nIle hA (by omega)] at this; exact this
      have eT : mj_dc mj_P E (d + 99) 92 [.ref 189, .int (nI A)] (mj_hw w c hi hl1) = _ := s_toldX (d := d + 97) (x := x) (s := A) n10 (by omega) hC
      have h64 : wc_u (wt_cp x n) A 8 < 2 ^ 64 := Nat.lt_of_lt_of_le (wt_U_lt x n10 A) (by decide)
      have eB : mj_dc mj_P E (d + 99) 294 [.long (lN (wc_u (wt_cp x n) A 8))] (mj_hw w c hi hl1) = _ := s_lbc (d := d + 98) h64
      rw [wt_Npc x n10] at eB
      refine ⟨nI (wt_N x n A), w, c, hi, hl1, mj_u hi 205 0 0, ?_, ?_, iv_told q, hw⟩
      · simp (disch := omega) only [e137, q137_0, q137_14, q137_19, q137_46, q137_61, q137_69, q137_72, s_within, ↓reduceIte, Bool.false_eq_true, eq_self, mj_10, mj_01, mj_n10, mj_0n1, mj_1n1, mj_n11, mj_bi_some, mj_bv_some, mj_bj_some, mj_br_some, mj_r0, mj_r1, mj_q0, mj_q1, mj_b01, mj_q2, if_true, if_false, mj_it, mj_if, true_and, and_true, false_and, and_false, not_true_eq_false, not_false_eq_true, true_or, or_true, false_or, or_false, mj_nIle, mj_nIlt, mj_nIeq, mj_nI0, mj_nIc, mj_nIadd, mj_nIs, mj_ez, mj_ze, mj_eo, mj_ltz, mj_lez, mj_zlt, mj_olt, mj_lto, mj_leo, mj_ole, mj_nIn, mj_nnI, nl_2, nl_3, nl_4, nl_5, nl_6, nl_7, nl_8, nl_9, nl_10, nl_11, nl_12, nl_13, nl_14, nl_15, nl_16, nl_17, nl_18, nl_19, nl_20, nl_21, nl_22, nl_23, nl_24, nl_25, nl_26, nl_27, nl_28, nl_29, nl_30, nl_32, nl_33, nl_34, nl_35, nl_36, nl_37, nl_38, nl_39, nl_40, nl_41, nl_42, nl_43, nl_44, nl_45, nl_46, nl_47, nl_48, nl_49, nl_50, nl_51, nl_52, nl_53, nl_54, nl_55, nl_56, nl_57, nl_58, nl_59, nl_60, nl_61, nl_62, nl_64, nl_65, nl_66, nl_67, nl_68, nl_69, nl_92, nl_97, nl_99, nl_100, nl_122, nl_127, nl_128, nl_131, nl_132, nl_150, nl_200, nl_255, nl_256, nl_300, nl_342, nl_380, nl_381, nl_400, nl_401, nl_420, nl_500, nl_600, nl_800, nl_999, nl_1000, nl_1023, nl_1024, nl_1200, nl_2048, nl_2100, nl_4096, nl_9999, nl_10000, nl_10240, nl_999999, nl_1000000, if_pos, if_neg, ha, a0, eC2, eT, eB]
      · have eM : mj_dc mj_P E (d + 99) 269 [.ref 205, .int (nI A)] (mj_hw w c (mj_u hi 205 0 0) hl1) = _ := s_toldM (d := d + 96) (x := x) (s := A) n10 (by omega) (by rw [mj_u_pt (by omega)]; exact mN) (fun v hv => ⟨by rw [mj_u_pt (by omega)]; exact (hx v hv).2.2, (hx v hv).1⟩)
        simp (disch := omega) only [e270, q270_0, q270_19, q270_27, q270_31, s_isIn, ↓reduceIte, Bool.false_eq_true, eq_self, mj_10, mj_01, mj_n10, mj_0n1, mj_1n1, mj_n11, mj_bi_some, mj_bv_some, mj_bj_some, mj_br_some, mj_r0, mj_r1, mj_q0, mj_q1, mj_b01, mj_q2, if_true, if_false, mj_it, mj_if, true_and, and_true, false_and, and_false, not_true_eq_false, not_false_eq_true, true_or, or_true, false_or, or_false, mj_nIle, mj_nIlt, mj_nIeq, mj_nI0, mj_nIc, mj_nIadd, mj_nIs, mj_ez, mj_ze, mj_eo, mj_ltz, mj_lez, mj_zlt, mj_olt, mj_lto, mj_leo, mj_ole, mj_nIn, mj_nnI, nl_2, nl_3, nl_4, nl_5, nl_6, nl_7, nl_8, nl_9, nl_10, nl_11, nl_12, nl_13, nl_14, nl_15, nl_16, nl_17, nl_18, nl_19, nl_20, nl_21, nl_22, nl_23, nl_24, nl_25, nl_26, nl_27, nl_28, nl_29, nl_30, nl_32, nl_33, nl_34, nl_35, nl_36, nl_37, nl_38, nl_39, nl_40, nl_41, nl_42, nl_43, nl_44, nl_45, nl_46, nl_47, nl_48, nl_49, nl_50, nl_51, nl_52, nl_53, nl_54, nl_55, nl_56, nl_57, nl_58, nl_59, nl_60, nl_61, nl_62, nl_64, nl_65, nl_66, nl_67, nl_68, nl_69, nl_92, nl_97, nl_99, nl_100, nl_122, nl_127, nl_128, nl_131, nl_132, nl_150, nl_200, nl_255, nl_256, nl_300, nl_342, nl_380, nl_381, nl_400, nl_401, nl_420, nl_500, nl_600, nl_800, nl_999, nl_1000, nl_1023, nl_1024, nl_1200, nl_2048, nl_2100, nl_4096, nl_9999, nl_10000, nl_10240, nl_999999, nl_1000000, if_pos, if_neg, ha, eM]
    · refine ⟨-1, w, c, hi, hl, mj_u hi 205 0 0, ?_, ?_, iv_told q, hw⟩
      · simp (disch := omega) only [e137, q137_0, q137_14, s_within, ↓reduceIte, Bool.false_eq_true, eq_self, mj_10, mj_01, mj_n10, mj_0n1, mj_1n1, mj_n11, mj_bi_some, mj_bv_some, mj_bj_some, mj_br_some, mj_r0, mj_r1, mj_q0, mj_q1, mj_b01, mj_q2, if_true, if_false, mj_it, mj_if, true_and, and_true, false_and, and_false, not_true_eq_false, not_false_eq_true, true_or, or_true, false_or, or_false, mj_nIle, mj_nIlt, mj_nIeq, mj_nI0, mj_nIc, mj_nIadd, mj_nIs, mj_ez, mj_ze, mj_eo, mj_ltz, mj_lez, mj_zlt, mj_olt, mj_lto, mj_leo, mj_ole, mj_nIn, mj_nnI, nl_2, nl_3, nl_4, nl_5, nl_6, nl_7, nl_8, nl_9, nl_10, nl_11, nl_12, nl_13, nl_14, nl_15, nl_16, nl_17, nl_18, nl_19, nl_20, nl_21, nl_22, nl_23, nl_24, nl_25, nl_26, nl_27, nl_28, nl_29, nl_30, nl_32, nl_33, nl_34, nl_35, nl_36, nl_37, nl_38, nl_39, nl_40, nl_41, nl_42, nl_43, nl_44, nl_45, nl_46, nl_47, nl_48, nl_49, nl_50, nl_51, nl_52, nl_53, nl_54, nl_55, nl_56, nl_57, nl_58, nl_59, nl_60, nl_61, nl_62, nl_64, nl_65, nl_66, nl_67, nl_68, nl_69, nl_92, nl_97, nl_99, nl_100, nl_122, nl_127, nl_128, nl_131, nl_132, nl_150, nl_200, nl_255, nl_256, nl_300, nl_342, nl_380, nl_381, nl_400, nl_401, nl_420, nl_500, nl_600, nl_800, nl_999, nl_1000, nl_1023, nl_1024, nl_1200, nl_2048, nl_2100, nl_4096, nl_9999, nl_10000, nl_10240, nl_999999, nl_1000000, if_pos, if_neg, ha, hn1]
      · simp (disch := omega) only [e270, q270_0, q270_19, q270_30, q270_31, s_isIn, ↓reduceIte, Bool.false_eq_true, eq_self, mj_10, mj_01, mj_n10, mj_0n1, mj_1n1, mj_n11, mj_bi_some, mj_bv_some, mj_bj_some, mj_br_some, mj_r0, mj_r1, mj_q0, mj_q1, mj_b01, mj_q2, if_true, if_false, mj_it, mj_if, true_and, and_true, false_and, and_false, not_true_eq_false, not_false_eq_true, true_or, or_true, false_or, or_false, mj_nIle, mj_nIlt, mj_nIeq, mj_nI0, mj_nIc, mj_nIadd, mj_nIs, mj_ez, mj_ze, mj_eo, mj_ltz, mj_lez, mj_zlt, mj_olt, mj_lto, mj_leo, mj_ole, mj_nIn, mj_nnI, nl_2, nl_3, nl_4, nl_5, nl_6, nl_7, nl_8, nl_9, nl_10, nl_11, nl_12, nl_13, nl_14, nl_15, nl_16, nl_17, nl_18, nl_19, nl_20, nl_21, nl_22, nl_23, nl_24, nl_25, nl_26, nl_27, nl_28, nl_29, nl_30, nl_32, nl_33, nl_34, nl_35, nl_36, nl_37, nl_38, nl_39, nl_40, nl_41, nl_42, nl_43, nl_44, nl_45, nl_46, nl_47, nl_48, nl_49, nl_50, nl_51, nl_52, nl_53, nl_54, nl_55, nl_56, nl_57, nl_58, nl_59, nl_60, nl_61, nl_62, nl_64, nl_65, nl_66, nl_67, nl_68, nl_69, nl_92, nl_97, nl_99, nl_100, nl_122, nl_127, nl_128, nl_131, nl_132, nl_150, nl_200, nl_255, nl_256, nl_300, nl_342, nl_380, nl_381, nl_400, nl_401, nl_420, nl_500, nl_600, nl_800, nl_999, nl_1000, nl_1023, nl_1024, nl_1200, nl_2048, nl_2100, nl_4096, nl_9999, nl_10000, nl_10240, nl_999999, nl_1000000, if_pos, if_neg, ha, hn1]
