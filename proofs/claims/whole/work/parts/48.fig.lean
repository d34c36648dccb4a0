/-! likely, quiet -/
theorem lp_ex {S T : Type} (F : Nat → S → T) (I : Nat → S → Prop) (n : Nat) (h : ∀ k s, k < n → I k s → ∃ s', F k s = F (k + 1) s' ∧ I (k + 1) s') (s : S) (h0 : I 0 s) : ∃ s', F 0 s = F n s' ∧ I n s' := by
  induction n with
  | zero => exact ⟨s, rfl, h0⟩
  | succ n ih =>
    obtain ⟨s1, e1, i1⟩ := ih (fun k s hk => h k s (by omega))
    obtain ⟨s2, e2, i2⟩ := h n s1 (by omega) i1
    exact ⟨s2, e1.trans e2, i2⟩
/-- from i on up to n -/
theorem lp_from {T : Type} (F : Nat → T) (i n : Nat) (hin : i ≤ n) (h : ∀ k, i ≤ k → k < n → F k = F (k + 1)) : F i = F n := by
  obtain ⟨j, rfl⟩ : ∃ j, n = i + j := ⟨n - i, by omega⟩
  clear hin
  induction j with
  | zero => rfl
  | succ j ih => exact (ih (fun k h1 h2 => h k h1 (by omega))).trans (h (i + j) (by omega) (by omega))
def wp_pal (q a b : Nat) : Nat := q * a * 1000000 / (q * a + (1000000 - q) * b)
theorem wp_pal_le (q a b : Nat) : wp_pal q a b ≤ 1000000 := by
  unfold wp_pal
  apply Nat.div_le_of_le_mul
  exact Nat.mul_le_mul_right _ (Nat.le_add_right _ _)
def wp_lk (q0 n : Nat) : Nat → Nat
  | 0 => q0
  | k + 1 => if k < n then wp_pal (wp_lk q0 n k) 9 4 else wp_pal (wp_lk q0 n k) 1 6
theorem wp_lk_le {q0 : Nat} (n : Nat) (h : q0 ≤ 1000000) : ∀ k, wp_lk q0 n k ≤ 1000000 := by
  intro k
  cases k with
  | zero => exact h
  | succ k => unfold wp_lk; split <;> exact wp_pal_le _ _ _
theorem wl_of (k : Nat) : Int64.ofNat k = lN k := rfl
theorem wp_divs {z y : Nat} (hy : 0 < y) : 10 * (z / y) + z % y * 10 / y = z * 10 / y ∧ (z % y * 10) % y = z * 10 % y := by
  have e : z * 10 = y * (10 * (z / y)) + z % y * 10 := by
    have := Nat.div_add_mod z y
    calc z * 10 = (y * (z / y) + z % y) * 10 := by rw [this]
      _ = y * (z / y) * 10 + z % y * 10 := Nat.add_mul _ _ _
      _ = y * (10 * (z / y)) + z % y * 10 := by rw [Nat.mul_assoc, Nat.mul_comm (z / y) 10]
  constructor
  · rw [e, Nat.mul_add_div hy]
  · rw [e, Nat.mul_add_mod]
section MJ48
variable {E : mj_E} {d w c : Nat} {hi : mj_HI} {hl : Nat → Nat → Int64}
theorem s_part {x y : Nat} (hy : 0 < y) (hy2 : y < 200000000) (hx : x < 2147483648) : mj_dc mj_P E (d + 1) 260 [.ref 205, .int (nI x), .int (nI y)] (mj_hw w c hi hl) = some (some (.int (nI (x * 1000000 / y))), mj_hw w c hi hl) := by
  have hne : ¬ nI y = 0 := by rw [mj_ez (by omega)]; omega
  rw [e260, q260_0, if_neg hne, if_neg hne, mj_nIdiv hx (by omega), mj_nIrem hx (by omega)]
  have key := lp_up (fun k => mj_den mj_P E d 260 12 [.ref 205, .int (nI x), .int (nI y), .int (nI (x * 10 ^ k / y)), .int (nI (x * 10 ^ k % y)), .int (nI k)] [] (mj_hw w c hi hl)) 6 (fun k hk => ?_)
  · have e0 : x * 10 ^ 0 = x := by omega
    simp only [e0] at key
    refine Eq.trans key ?_
    rw [q260_12, if_pos (by decide), q260_48]
  · show mj_den mj_P E d 260 12 [.ref 205, .int (nI x), .int (nI y), .int (nI (x * 10 ^ k / y)), .int (nI (x * 10 ^ k % y)), .int (nI k)] [] (mj_hw w c hi hl) = mj_den mj_P E d 260 12 [.ref 205, .int (nI x), .int (nI y), .int (nI (x * 10 ^ (k + 1) / y)), .int (nI (x * 10 ^ (k + 1) % y)), .int (nI (k + 1))] [] (mj_hw w c hi hl)
    have hB : x * 10 ^ k % y < y := Nat.mod_lt _ hy
    have e1 : x * 10 ^ (k + 1) = x * 10 ^ k * 10 := by rw [Nat.pow_succ, Nat.mul_assoc]
    rw [e1]
    obtain ⟨h1, h2⟩ := wp_divs (z := x * 10 ^ k) hy
    rw [q260_12, if_neg (by rw [nl_6, mj_nIle (by omega) (by omega)]; omega), if_neg hne, if_neg hne, nl_10, mj_nImul, mj_nImul, mj_nIdiv (by omega) (by omega), mj_nIrem (by omega) (by omega), mj_nIadd, mj_nIs, h1, h2]
theorem s_pal94 {q : Nat} (hq : q ≤ 1000000) : mj_dc mj_P E (d + 2) 261 [.ref 205, .int (nI q), .int (nI 9), .int (nI 4)] (mj_hw w c hi hl) = some (some (.int (nI (wp_pal q 9 4))), mj_hw w c hi hl) := by
  rw [e261, q261_0, nl_1000000, mj_nImul, mj_nIsub hq, mj_nImul, mj_nIadd, s_part (by omega) (by omega) (by omega), mj_bi_some, q261_18]
  rfl
theorem s_pal16 {q : Nat} (hq : q ≤ 1000000) : mj_dc mj_P E (d + 2) 261 [.ref 205, .int (nI q), .int 1, .int (nI 6)] (mj_hw w c hi hl) = some (some (.int (nI (wp_pal q 1 6))), mj_hw w c hi hl) := by
  rw [mj_oo, e261, q261_0, nl_1000000, mj_nImul, mj_nIsub hq, mj_nImul, mj_nIadd, s_part (by omega) (by omega) (by omega), mj_bi_some, q261_18]
  rfl
theorem s_lkM {p n m : Nat} (hp : p ≤ 1000) (hn : n ≤ 40) (hm : m ≤ 40) : mj_dc mj_P E (d + 3) 262 [.ref 205, .int (nI p), .int (nI n), .int (nI m)] (mj_hw w c hi hl) = some (some (.int (nI (wp_lk (1000 * p) n m))), mj_hw w c hi hl) := by
  rw [e262, q262_0, nl_1000, mj_nImul]
  refine (lp_up (fun k => mj_den mj_P E (d + 2) 262 10 [.ref 205, .int (nI p), .int (nI n), .int (nI m), .int (nI (wp_lk (1000 * p) n k)), .int (nI k)] [] (mj_hw w c hi hl)) m (fun k hk => ?_)).trans ?_
  · show mj_den mj_P E (d + 2) 262 10 [.ref 205, .int (nI p), .int (nI n), .int (nI m), .int (nI (wp_lk (1000 * p) n k)), .int (nI k)] [] (mj_hw w c hi hl) = mj_den mj_P E (d + 2) 262 10 [.ref 205, .int (nI p), .int (nI n), .int (nI m), .int (nI (wp_lk (1000 * p) n (k + 1))), .int (nI (k + 1))] [] (mj_hw w c hi hl)
    have hb := wp_lk_le n (show 1000 * p ≤ 1000000 by omega) k
    rw [q262_10, show wp_lk (1000 * p) n (k + 1) = if k < n then wp_pal (wp_lk (1000 * p) n k) 9 4 else wp_pal (wp_lk (1000 * p) n k) 1 6 from rfl]
    by_cases h : k < n
    · simp (disch := omega) only [↓reduceIte, Bool.false_eq_true, eq_self, mj_10, mj_01, mj_n10, mj_0n1, mj_1n1, mj_n11, mj_bi_some, mj_bv_some, mj_bj_some, mj_br_some, mj_r0, mj_r1, mj_q0, mj_q1, mj_b01, mj_q2, if_true, if_false, mj_it, mj_if, true_and, and_true, false_and, and_false, not_true_eq_false, not_false_eq_true, true_or, or_true, false_or, or_false, mj_nIle, mj_nIlt, mj_nIeq, mj_nI0, mj_nIc, mj_nIadd, mj_nIs, mj_ez, mj_ze, mj_eo, mj_ltz, mj_lez, mj_zlt, mj_olt, mj_lto, mj_leo, mj_ole, mj_nIn, mj_nnI, nl_2, nl_3, nl_4, nl_5, nl_6, nl_7, nl_8, nl_9, nl_10, nl_11, nl_12, nl_13, nl_14, nl_15, nl_16, nl_17, nl_18, nl_19, nl_20, nl_21, nl_22, nl_23, nl_24, nl_25, nl_26, nl_27, nl_28, nl_29, nl_30, nl_32, nl_33, nl_34, nl_35, nl_36, nl_37, nl_38, nl_39, nl_40, nl_41, nl_42, nl_43, nl_44, nl_45, nl_46, nl_47, nl_48, nl_49, nl_50, nl_51, nl_52, nl_53, nl_54, nl_55, nl_56, nl_57, nl_58, nl_59, nl_60, nl_61, nl_62, nl_64, nl_65, nl_66, nl_67, nl_68, nl_69, nl_92, nl_97, nl_99, nl_100, nl_122, nl_127, nl_128, nl_131, nl_132, nl_150, nl_200, nl_255, nl_256, nl_300, nl_342, nl_380, nl_381, nl_400, nl_401, nl_420, nl_500, nl_600, nl_800, nl_999, nl_1000, nl_1023, nl_1024, nl_1200, nl_2048, nl_2100, nl_4096, nl_9999, nl_10000, nl_10240, nl_999999, nl_1000000, if_pos, if_neg, q262_31, q262_34, q262_43, s_pal94, s_pal16]
    · simp (disch := omega) only [↓reduceIte, Bool.false_eq_true, eq_self, mj_10, mj_01, mj_n10, mj_0n1, mj_1n1, mj_n11, mj_bi_some, mj_bv_some, mj_bj_some, mj_br_some, mj_r0, mj_r1, mj_q0, mj_q1, mj_b01, mj_q2, if_true, if_false, mj_it, mj_if, true_and, and_true, false_and, and_false, not_true_eq_false, not_false_eq_true, true_or, or_true, false_or, or_false, mj_nIle, mj_nIlt, mj_nIeq, mj_nI0, mj_nIc, mj_nIadd, mj_nIs, mj_ez, mj_ze, mj_eo, mj_ltz, mj_lez, mj_zlt, mj_olt, mj_lto, mj_leo, mj_ole, mj_nIn, mj_nnI, nl_2, nl_3, nl_4, nl_5, nl_6, nl_7, nl_8, nl_9, nl_10, nl_11, nl_12, nl_13, nl_14, nl_15, nl_16, nl_17, nl_18, nl_19, nl_20, nl_21, nl_22, nl_23, nl_24, nl_25, nl_26, nl_27, nl_28, nl_29, nl_30, nl_32, nl_33, nl_34, nl_35, nl_36, nl_37, nl_38, nl_39, nl_40, nl_41, nl_42, nl_43, nl_44, nl_45, nl_46, nl_47, nl_48, nl_49, nl_50, nl_51, nl_52, nl_53, nl_54, nl_55, nl_56, nl_57, nl_58, nl_59, nl_60, nl_61, nl_62, nl_64, nl_65, nl_66, nl_67, nl_68, nl_69, nl_92, nl_97, nl_99, nl_100, nl_122, nl_127, nl_128, nl_131, nl_132, nl_150, nl_200, nl_255, nl_256, nl_300, nl_342, nl_380, nl_381, nl_400, nl_401, nl_420, nl_500, nl_600, nl_800, nl_999, nl_1000, nl_1023, nl_1024, nl_1200, nl_2048, nl_2100, nl_4096, nl_9999, nl_10000, nl_10240, nl_999999, nl_1000000, if_pos, if_neg, q262_31, q262_34, q262_43, s_pal94, s_pal16]
  · show mj_den mj_P E (d + 2) 262 10 _ _ _ = _
    rw [q262_10, if_pos (Int32.le_refl _), q262_51]
theorem s_wei {q a b : Nat} (hq : q ≤ 1000000) (h : (a = 9 ∧ b = 4) ∨ (a = 1 ∧ b = 6)) : mj_dc mj_P E (d + 1) 9 [.long (lN q), .int (nI a), .int (nI b)] (mj_hw w c hi hl) = some (some (.long (lN (wp_pal q a b))), mj_hw w c hi hl) := by
  have h1 : 0 < q * a + (1000000 - q) * b := by rcases h with ⟨rfl, rfl⟩ | ⟨rfl, rfl⟩ <;> omega
  have h2 : q * a + (1000000 - q) * b < 100000000 := by rcases h with ⟨rfl, rfl⟩ | ⟨rfl, rfl⟩ <;> omega
  have h3 : q * a * 1000000 < 10000000000000 := by rcases h with ⟨rfl, rfl⟩ | ⟨rfl, rfl⟩ <;> omega
  have ha : a < 2 ^ 31 := by omega
  have hb : b < 2 ^ 31 := by omega
  rw [e9, q9_0, wl_of, wl_of, nI_l ha, nI_l hb, lN_mul, lN_sub hq, lN_mul, lN_add, lN_mul, pk_lDiv (by omega) h1 (by omega)]
  have hc : ¬ lg_cmp (lN (q * a + (1000000 - q) * b)) (lN 0) ≤ 0 := by
    rw [lg_cmp_le, pk_lLE (by omega) (by omega)]; omega
  have hz : ¬ lN (q * a + (1000000 - q) * b) = 0 := by
    rw [show (0 : Int64) = lN 0 from rfl, pk_lEQ (by omega) (by omega)]; omega
  rw [if_neg hc, if_neg hz, q9_37]
  rfl
theorem wp_lk_1 (q n k : Nat) : wp_lk q n (k + 1) = if k < n then wp_pal (wp_lk q n k) 9 4 else wp_pal (wp_lk q n k) 1 6 := rfl
theorem s_palX {q n m : Nat} (hq : q ≤ 1000000) (hn : n ≤ 40) (hm : m ≤ 40) : mj_dc mj_P E (d + 2) 8 [.ref 202, .int (nI q), .int (nI n), .int (nI m)] (mj_hw w c hi hl) = some (some (.int (nI (wp_lk q n (n + m)))), mj_hw w c hi hl) := by
  rw [e8, q8_0, nI_l (by omega)]
  refine (lp_up (fun k => mj_den mj_P E (d + 1) 8 7 [.ref 202, .int (nI q), .int (nI n), .int (nI m), .long (lN (wp_lk q n k)), .float 0, .int (nI k)] [] (mj_hw w c hi hl)) n (fun k hk => ?_)).trans ?_
  · show mj_den mj_P E (d + 1) 8 7 [.ref 202, .int (nI q), .int (nI n), .int (nI m), .long (lN (wp_lk q n k)), .float 0, .int (nI k)] [] (mj_hw w c hi hl) = mj_den mj_P E (d + 1) 8 7 [.ref 202, .int (nI q), .int (nI n), .int (nI m), .long (lN (wp_lk q n (k + 1))), .float 0, .int (nI (k + 1))] [] (mj_hw w c hi hl)
    have hb := wp_lk_le n hq k
    rw [q8_7, if_neg (by rw [mj_nIle (by omega) (by omega)]; omega), nl_9, nl_4, s_wei hb (Or.inl ⟨rfl, rfl⟩), mj_bj_some, q8_21, mj_nIs, wp_lk_1, if_pos hk]
  · show mj_den mj_P E (d + 1) 8 7 [.ref 202, .int (nI q), .int (nI n), .int (nI m), .long (lN (wp_lk q n n)), .float 0, .int (nI n)] [] (mj_hw w c hi hl) = _
    rw [q8_7, if_pos (Int32.le_refl _), q8_29]
    refine (lp_up (fun k => mj_den mj_P E (d + 1) 8 32 [.ref 202, .int (nI q), .int (nI n), .int (nI m), .long (lN (wp_lk q n (n + k))), .float 0, .int (nI k)] [] (mj_hw w c hi hl)) m (fun k hk => ?_)).trans ?_
    · show mj_den mj_P E (d + 1) 8 32 [.ref 202, .int (nI q), .int (nI n), .int (nI m), .long (lN (wp_lk q n (n + k))), .float 0, .int (nI k)] [] (mj_hw w c hi hl) = mj_den mj_P E (d + 1) 8 32 [.ref 202, .int (nI q), .int (nI n), .int (nI m), .long (lN (wp_lk q n (n + (k + 1)))), .float 0, .int (nI (k + 1))] [] (mj_hw w c hi hl)
      have hb := wp_lk_le n hq (n + k)
      rw [q8_32, if_neg (by rw [mj_nIle (by omega) (by omega)]; omega), mj_oo, nl_6, s_wei hb (Or.inr ⟨rfl, rfl⟩), mj_bj_some, q8_46, mj_nIs, show n + (k + 1) = n + k + 1 by omega, wp_lk_1, if_neg (by omega)]
    · show mj_den mj_P E (d + 1) 8 32 _ _ _ = _
      rw [q8_32, if_pos (Int32.le_refl _), q8_54, lN_i]
end MJ48
theorem cs_likely (a b e : Int32) : mj_Cs 133 263 [.int a, .int b, .int e] := by
  intro E d w c hi hl hE hw hI
  obtain ⟨n, l, q⟩ := iv_I_un.mp hI
  by_cases ha : 0 ≤ a ∧ a ≤ nI 1000
  · obtain ⟨A, hA, rfl⟩ := mj_ofn ha.1
    have hA2 : A ≤ 1000 := by have := ha.2; rw [mj_nIle hA (by omega)] at this; exact this
    by_cases hb : 0 ≤ b ∧ b ≤ nI 20
    · obtain ⟨B, hB, rfl⟩ := mj_ofn hb.1
      have hB2 : B ≤ 20 := by have := hb.2; rw [mj_nIle hB (by omega)] at this; exact this
      by_cases he : nI B ≤ e ∧ e ≤ nI 40
      · have he0 : 0 ≤ e := Int32.le_trans (by rw [mj_nI0 hB]; trivial) he.1
        obtain ⟨C, hC, rfl⟩ := mj_ofn he0
        have hC2 : C ≤ 40 := by have := he.2; rw [mj_nIle hC (by omega)] at this; exact this
        have hC3 : B ≤ C := by have := he.1; rw [mj_nIle hB hC] at this; exact this
        refine ⟨nI (wp_lk (1000 * A) B C), w, c, hi, hl, mj_u hi 205 0 0, ?_, ?_, iv_told q, hw⟩
        · have e1 := s_palX (E := E) (d := d + 97) (w := w) (c := c) (hi := hi) (hl := hl) (q := A * 1000) (n := B) (m := C - B) (by omega) (by omega) (by omega)
          rw [show B + (C - B) = C by omega, show A * 1000 = 1000 * A by omega] at e1
          simp (disch := omega) only [q133_0, q133_7, q133_16, q133_30, q133_32, q133_48, e133, s_within, ↓reduceIte, Bool.false_eq_true, eq_self, mj_10, mj_01, mj_n10, mj_0n1, mj_1n1, mj_n11, mj_bi_some, mj_bv_some, mj_bj_some, mj_br_some, mj_r0, mj_r1, mj_q0, mj_q1, mj_b01, mj_q2, if_true, if_false, mj_it, mj_if, true_and, and_true, false_and, and_false, not_true_eq_false, not_false_eq_true, true_or, or_true, false_or, or_false, mj_nIle, mj_nIlt, mj_nIeq, mj_nI0, mj_nIc, mj_nIadd, mj_nIs, mj_ez, mj_ze, mj_eo, mj_ltz, mj_lez, mj_zlt, mj_olt, mj_lto, mj_leo, mj_ole, mj_nIn, mj_nnI, nl_2, nl_3, nl_4, nl_5, nl_6, nl_7, nl_8, nl_9, nl_10, nl_11, nl_12, nl_13, nl_14, nl_15, nl_16, nl_17, nl_18, nl_19, nl_20, nl_21, nl_22, nl_23, nl_24, nl_25, nl_26, nl_27, nl_28, nl_29, nl_30, nl_32, nl_33, nl_34, nl_35, nl_36, nl_37, nl_38, nl_39, nl_40, nl_41, nl_42, nl_43, nl_44, nl_45, nl_46, nl_47, nl_48, nl_49, nl_50, nl_51, nl_52, nl_53, nl_54, nl_55, nl_56, nl_57, nl_58, nl_59, nl_60, nl_61, nl_62, nl_64, nl_65, nl_66, nl_67, nl_68, nl_69, nl_92, nl_97, nl_99, nl_100, nl_122, nl_127, nl_128, nl_131, nl_132, nl_150, nl_200, nl_255, nl_256, nl_300, nl_342, nl_380, nl_381, nl_400, nl_401, nl_420, nl_500, nl_600, nl_800, nl_999, nl_1000, nl_1023, nl_1024, nl_1200, nl_2048, nl_2100, nl_4096, nl_9999, nl_10000, nl_10240, nl_999999, nl_1000000, if_pos, if_neg, ha, hb, mj_nIsub, mj_nImul, show A * 1000 = 1000 * A by omega, e1]
        · have e1 := s_lkM (E := E) (d := d + 96) (w := w) (c := c) (hi := mj_u hi 205 0 0) (hl := hl) hA2 (show B ≤ 40 by omega) hC2
          simp (disch := omega) only [q263_0, q263_14, q263_25, q263_36, q263_46, q263_49, q263_50, e263, s_isIn, ↓reduceIte, Bool.false_eq_true, eq_self, mj_10, mj_01, mj_n10, mj_0n1, mj_1n1, mj_n11, mj_bi_some, mj_bv_some, mj_bj_some, mj_br_some, mj_r0, mj_r1, mj_q0, mj_q1, mj_b01, mj_q2, if_true, if_false, mj_it, mj_if, true_and, and_true, false_and, and_false, not_true_eq_false, not_false_eq_true, true_or, or_true, false_or, or_false, mj_nIle, mj_nIlt, mj_nIeq, mj_nI0, mj_nIc, mj_nIadd, mj_nIs, mj_ez, mj_ze, mj_eo, mj_ltz, mj_lez, mj_zlt, mj_olt, mj_lto, mj_leo, mj_ole, mj_nIn, mj_nnI, nl_2, nl_3, nl_4, nl_5, nl_6, nl_7, nl_8, nl_9, nl_10, nl_11, nl_12, nl_13, nl_14, nl_15, nl_16, nl_17, nl_18, nl_19, nl_20, nl_21, nl_22, nl_23, nl_24, nl_25, nl_26, nl_27, nl_28, nl_29, nl_30, nl_32, nl_33, nl_34, nl_35, nl_36, nl_37, nl_38, nl_39, nl_40, nl_41, nl_42, nl_43, nl_44, nl_45, nl_46, nl_47, nl_48, nl_49, nl_50, nl_51, nl_52, nl_53, nl_54, nl_55, nl_56, nl_57, nl_58, nl_59, nl_60, nl_61, nl_62, nl_64, nl_65, nl_66, nl_67, nl_68, nl_69, nl_92, nl_97, nl_99, nl_100, nl_122, nl_127, nl_128, nl_131, nl_132, nl_150, nl_200, nl_255, nl_256, nl_300, nl_342, nl_380, nl_381, nl_400, nl_401, nl_420, nl_500, nl_600, nl_800, nl_999, nl_1000, nl_1023, nl_1024, nl_1200, nl_2048, nl_2100, nl_4096, nl_9999, nl_10000, nl_10240, nl_999999, nl_1000000, if_pos, if_neg, ha, hb, he, e1]
      · refine ⟨-1, w, c, hi, hl, mj_u hi 205 0 0, ?_, ?_, iv_told q, hw⟩
        · by_cases h1 : e < nI B
          · simp (disch := omega) only [q133_0, q133_7, q133_16, q133_30, q133_32, q133_48, e133, s_within, ↓reduceIte, Bool.false_eq_true, eq_self, mj_10, mj_01, mj_n10, mj_0n1, mj_1n1, mj_n11, mj_bi_some, mj_bv_some, mj_bj_some, mj_br_some, mj_r0, mj_r1, mj_q0, mj_q1, mj_b01, mj_q2, if_true, if_false, mj_it, mj_if, true_and, and_true, false_and, and_false, not_true_eq_false, not_false_eq_true, true_or, or_true, false_or, or_false, mj_nIle, mj_nIlt, mj_nIeq, mj_nI0, mj_nIc, mj_nIadd, mj_nIs, mj_ez, mj_ze, mj_eo, mj_ltz, mj_lez, mj_zlt, mj_olt, mj_lto, mj_leo, mj_ole, mj_nIn, mj_nnI, nl_2, nl_3, nl_4, nl_5, nl_6, nl_7, nl_8, nl_9, nl_10, nl_11, nl_12, nl_13, nl_14, nl_15, nl_16, nl_17, nl_18, nl_19, nl_20, nl_21, nl_22, nl_23, nl_24, nl_25, nl_26, nl_27, nl_28, nl_29, nl_30, nl_32, nl_33, nl_34, nl_35, nl_36, nl_37, nl_38, nl_39, nl_40, nl_41, nl_42, nl_43, nl_44, nl_45, nl_46, nl_47, nl_48, nl_49, nl_50, nl_51, nl_52, nl_53, nl_54, nl_55, nl_56, nl_57, nl_58, nl_59, nl_60, nl_61, nl_62, nl_64, nl_65, nl_66, nl_67, nl_68, nl_69, nl_92, nl_97, nl_99, nl_100, nl_122, nl_127, nl_128, nl_131, nl_132, nl_150, nl_200, nl_255, nl_256, nl_300, nl_342, nl_380, nl_381, nl_400, nl_401, nl_420, nl_500, nl_600, nl_800, nl_999, nl_1000, nl_1023, nl_1024, nl_1200, nl_2048, nl_2100, nl_4096, nl_9999, nl_10000, nl_10240, nl_999999, nl_1000000, if_pos, if_neg, ha, hb, h1]
          · have h2 : ¬ e ≤ nI 40 := fun z => he ⟨Int32.not_lt.mp h1, z⟩
            simp (disch := omega) only [q133_0, q133_7, q133_16, q133_30, q133_32, q133_48, e133, s_within, ↓reduceIte, Bool.false_eq_true, eq_self, mj_10, mj_01, mj_n10, mj_0n1, mj_1n1, mj_n11, mj_bi_some, mj_bv_some, mj_bj_some, mj_br_some, mj_r0, mj_r1, mj_q0, mj_q1, mj_b01, mj_q2, if_true, if_false, mj_it, mj_if, true_and, and_true, false_and, and_false, not_true_eq_false, not_false_eq_true, true_or, or_true, false_or, or_false, mj_nIle, mj_nIlt, mj_nIeq, mj_nI0, mj_nIc, mj_nIadd, mj_nIs, mj_ez, mj_ze, mj_eo, mj_ltz, mj_lez, mj_zlt, mj_olt, mj_lto, mj_leo, mj_ole, mj_nIn, mj_nnI, nl_2, nl_3, nl_4, nl_5, nl_6, nl_7, nl_8, nl_9, nl_10, nl_11, nl_12, nl_13, nl_14, nl_15, nl_16, nl_17, nl_18, nl_19, nl_20, nl_21, nl_22, nl_23, nl_24, nl_25, nl_26, nl_27, nl_28, nl_29, nl_30, nl_32, nl_33, nl_34, nl_35, nl_36, nl_37, nl_38, nl_39, nl_40, nl_41, nl_42, nl_43, nl_44, nl_45, nl_46, nl_47, nl_48, nl_49, nl_50, nl_51, nl_52, nl_53, nl_54, nl_55, nl_56, nl_57, nl_58, nl_59, nl_60, nl_61, nl_62, nl_64, nl_65, nl_66, nl_67, nl_68, nl_69, nl_92, nl_97, nl_99, nl_100, nl_122, nl_127, nl_128, nl_131, nl_132, nl_150, nl_200, nl_255, nl_256, nl_300, nl_342, nl_380, nl_381, nl_400, nl_401, nl_420, nl_500, nl_600, nl_800, nl_999, nl_1000, nl_1023, nl_1024, nl_1200, nl_2048, nl_2100, nl_4096, nl_9999, nl_10000, nl_10240, nl_999999, nl_1000000, if_pos, if_neg, ha, hb, h1, h2]
        · simp (disch := omega) only [q263_0, q263_14, q263_25, q263_36, q263_46, q263_49, q263_50, e263, s_isIn, ↓reduceIte, Bool.false_eq_true, eq_self, mj_10, mj_01, mj_n10, mj_0n1, mj_1n1, mj_n11, mj_bi_some, mj_bv_some, mj_bj_some, mj_br_some, mj_r0, mj_r1, mj_q0, mj_q1, mj_b01, mj_q2, if_true, if_false, mj_it, mj_if, true_and, and_true, false_and, and_false, not_true_eq_false, not_false_eq_true, true_or, or_true, false_or, or_false, mj_nIle, mj_nIlt, mj_nIeq, mj_nI0, mj_nIc, mj_nIadd, mj_nIs, mj_ez, mj_ze, mj_eo, mj_ltz, mj_lez, mj_zlt, mj_olt, mj_lto, mj_leo, mj_ole, mj_nIn, mj_nnI, nl_2, nl_3, nl_4, nl_5, nl_6, nl_7, nl_8, nl_9, nl_10, nl_11, nl_12, nl_13, nl_14, nl_15, nl_16, nl_17, nl_18, nl_19, nl_20, nl_21, nl_22, nl_23, nl_24, nl_25, nl_26, nl_27, nl_28, nl_29, nl_30, nl_32, nl_33, nl_34, nl_35, nl_36, nl_37, nl_38, nl_39, nl_40, nl_41, nl_42, nl_43, nl_44, nl_45, nl_46, nl_47, nl_48, nl_49, nl_50, nl_51, nl_52, nl_53, nl_54, nl_55, nl_56, nl_57, nl_58, nl_59, nl_60, nl_61, nl_62, nl_64, nl_65, nl_66, nl_67, nl_68, nl_69, nl_92, nl_97, nl_99, nl_100, nl_122, nl_127, nl_128, nl_131, nl_132, nl_150, nl_200, nl_255, nl_256, nl_300, nl_342, nl_380, nl_381, nl_400, nl_401, nl_420, nl_500, nl_600, nl_800, nl_999, nl_1000, nl_1023, nl_1024, nl_1200, nl_2048, nl_2100, nl_4096, nl_9999, nl_10000, nl_10240, nl_999999, nl_1000000, if_pos, if_neg, ha, hb, he]
    · refine ⟨-1, w, c, hi, hl, mj_u hi 205 0 0, ?_, ?_, iv_told q, hw⟩
      · simp (disch := omega) only [q133_0, q133_7, q133_16, q133_30, q133_32, q133_48, e133, s_within, ↓reduceIte, Bool.false_eq_true, eq_self, mj_10, mj_01, mj_n10, mj_0n1, mj_1n1, mj_n11, mj_bi_some, mj_bv_some, mj_bj_some, mj_br_some, mj_r0, mj_r1, mj_q0, mj_q1, mj_b01, mj_q2, if_true, if_false, mj_it, mj_if, true_and, and_true, false_and, and_false, not_true_eq_false, not_false_eq_true, true_or, or_true, false_or, or_false, mj_nIle, mj_nIlt, mj_nIeq, mj_nI0, mj_nIc, mj_nIadd, mj_nIs, mj_ez, mj_ze, mj_eo, mj_ltz, mj_lez, mj_zlt, mj_olt, mj_lto, mj_leo, mj_ole, mj_nIn, mj_nnI, nl_2, nl_3, nl_4, nl_5, nl_6, nl_7, nl_8, nl_9, nl_10, nl_11, nl_12, nl_13, nl_14, nl_15, nl_16, nl_17, nl_18, nl_19, nl_20, nl_21, nl_22, nl_23, nl_24, nl_25, nl_26, nl_27, nl_28, nl_29, nl_30, nl_32, nl_33, nl_34, nl_35, nl_36, nl_37, nl_38, nl_39, nl_40, nl_41, nl_42, nl_43, nl_44, nl_45, nl_46, nl_47, nl_48, nl_49, nl_50, nl_51, nl_52, nl_53, nl_54, nl_55, nl_56, nl_57, nl_58, nl_59, nl_60, nl_61, nl_62, nl_64, nl_65, nl_66, nl_67, nl_68, nl_69, nl_92, nl_97, nl_99, nl_100, nl_122, nl_127, nl_128, nl_131, nl_132, nl_150, nl_200, nl_255, nl_256, nl_300, nl_342, nl_380, nl_381, nl_400, nl_401, nl_420, nl_500, nl_600, nl_800, nl_999, nl_1000, nl_1023, nl_1024, nl_1200, nl_2048, nl_2100, nl_4096, nl_9999, nl_10000, nl_10240, nl_999999, nl_1000000, if_pos, if_neg, ha, hb]
      · simp (disch := omega) only [q263_0, q263_14, q263_25, q263_36, q263_46, q263_49, q263_50, e263, s_isIn, ↓reduceIte, Bool.false_eq_true, eq_self, mj_10, mj_01, mj_n10, mj_0n1, mj_1n1, mj_n11, mj_bi_some, mj_bv_some, mj_bj_some, mj_br_some, mj_r0, mj_r1, mj_q0, mj_q1, mj_b01, mj_q2, if_true, if_false, mj_it, mj_if, true_and, and_true, false_and, and_false, not_true_eq_false, not_false_eq_true, true_or, or_true, false_or, or_false, mj_nIle, mj_nIlt, mj_nIeq, mj_nI0, mj_nIc, mj_nIadd, mj_nIs, mj_ez, mj_ze, mj_eo, mj_ltz, mj_lez, mj_zlt, mj_olt, mj_lto, mj_leo, mj_ole, mj_nIn, mj_nnI, nl_2, nl_3, nl_4, nl_5, nl_6, nl_7, nl_8, nl_9, nl_10, nl_11, nl_12, nl_13, nl_14, nl_15, nl_16, nl_17, nl_18, nl_19, nl_20, nl_21, nl_22, nl_23, nl_24, nl_25, nl_26, nl_27, nl_28, nl_29, nl_30, nl_32, nl_33, nl_34, nl_35, nl_36, nl_37, nl_38, nl_39, nl_40, nl_41, nl_42, nl_43, nl_44, nl_45, nl_46, nl_47, nl_48, nl_49, nl_50, nl_51, nl_52, nl_53, nl_54, nl_55, nl_56, nl_57, nl_58, nl_59, nl_60, nl_61, nl_62, nl_64, nl_65, nl_66, nl_67, nl_68, nl_69, nl_92, nl_97, nl_99, nl_100, nl_122, nl_127, nl_128, nl_131, nl_132, nl_150, nl_200, nl_255, nl_256, nl_300, nl_342, nl_380, nl_381, nl_400, nl_401, nl_420, nl_500, nl_600, nl_800, nl_999, nl_1000, nl_1023, nl_1024, nl_1200, nl_2048, nl_2100, nl_4096, nl_9999, nl_10000, nl_10240, nl_999999, nl_1000000, if_pos, if_neg, ha, hb]
  · refine ⟨-1, w, c, hi, hl, mj_u hi 205 0 0, ?_, ?_, iv_told q, hw⟩
    · simp (disch := omega) only [q133_0, q133_7, q133_16, q133_30, q133_32, q133_48, e133, s_within, ↓reduceIte, Bool.false_eq_true, eq_self, mj_10, mj_01, mj_n10, mj_0n1, mj_1n1, mj_n11, mj_bi_some, mj_bv_some, mj_bj_some, mj_br_some, mj_r0, mj_r1, mj_q0, mj_q1, mj_b01, mj_q2, if_true, if_false, mj_it, mj_if, true_and, and_true, false_and, and_false, not_true_eq_false, not_false_eq_true, true_or, or_true, false_or, or_false, mj_nIle, mj_nIlt, mj_nIeq, mj_nI0, mj_nIc, mj_nIadd, mj_nIs, mj_ez, mj_ze, mj_eo, mj_ltz, mj_lez, mj_zlt, mj_olt, mj_lto, mj_leo, mj_ole, mj_nIn, mj_nnI, nl_2, nl_3, nl_4, nl_5, nl_6, nl_7, nl_8, nl_9, nl_10, nl_11, nl_12, nl_13, nl_14, nl_15, nl_16, nl_17, nl_18, nl_19, nl_20, nl_21, nl_22, nl_23, nl_24, nl_25, nl_26, nl_27, nl_28, nl_29, nl_30, nl_32, nl_33, nl_34, nl_35, nl_36, nl_37, nl_38, nl_39, nl_40, nl_41, nl_42, nl_43, nl_44, nl_45, nl_46, nl_47, nl_48, nl_49, nl_50, nl_51, nl_52, nl_53, nl_54, nl_55, nl_56, nl_57, nl_58, nl_59, nl_60, nl_61, nl_62, nl_64, nl_65, nl_66, nl_67, nl_68, nl_69, nl_92, nl_97, nl_99, nl_100, nl_122, nl_127, nl_128, nl_131, nl_132, nl_150, nl_200, nl_255, nl_256, nl_300, nl_342, nl_380, nl_381, nl_400, nl_401, nl_420, nl_500, nl_600, nl_800, nl_999, nl_1000, nl_1023, nl_1024, nl_1200, nl_2048, nl_2100, nl_4096, nl_9999, nl_10000, nl_10240, nl_999999, nl_1000000, if_pos, if_neg, ha]
    · simp (disch := omega) only [q263_0, q263_14, q263_25, q263_36, q263_46, q263_49, q263_50, e263, s_isIn, ↓reduceIte, Bool.false_eq_true, eq_self, mj_10, mj_01, mj_n10, mj_0n1, mj_1n1, mj_n11, mj_bi_some, mj_bv_some, mj_bj_some, mj_br_some, mj_r0, mj_r1, mj_q0, mj_q1, mj_b01, mj_q2, if_true, if_false, mj_it, mj_if, true_and, and_true, false_and, and_false, not_true_eq_false, not_false_eq_true, true_or, or_true, false_or, or_false, mj_nIle, mj_nIlt, mj_nIeq, mj_nI0, mj_nIc, mj_nIadd, mj_nIs, mj_ez, mj_ze, mj_eo, mj_ltz, mj_lez, mj_zlt, mj_olt, mj_lto, mj_leo, mj_ole, mj_nIn, mj_nnI, nl_2, nl_3, nl_4, nl_5, nl_6, nl_7, nl_8, nl_9, nl_10, nl_11, nl_12, nl_13, nl_14, nl_15, nl_16, nl_17, nl_18, nl_19, nl_20, nl_21, nl_22, nl_23, nl_24, nl_25, nl_26, nl_27, nl_28, nl_29, nl_30, nl_32, nl_33, nl_34, nl_35, nl_36, nl_37, nl_38, nl_39, nl_40, nl_41, nl_42, nl_43, nl_44, nl_45, nl_46, nl_47, nl_48, nl_49, nl_50, nl_51, nl_52, nl_53, nl_54, nl_55, nl_56, nl_57, nl_58, nl_59, nl_60, nl_61, nl_62, nl_64, nl_65, nl_66, nl_67, nl_68, nl_69, nl_92, nl_97, nl_99, nl_100, nl_122, nl_127, nl_128, nl_131, nl_132, nl_150, nl_200, nl_255, nl_256, nl_300, nl_342, nl_380, nl_381, nl_400, nl_401, nl_420, nl_500, nl_600, nl_800, nl_999, nl_1000, nl_1023, nl_1024, nl_1200, nl_2048, nl_2100, nl_4096, nl_9999, nl_10000, nl_10240, nl_999999, nl_1000000, if_pos, if_neg, ha]
/-- how many words until it falls below t -/
def wp_qs (t : Int32) : Nat → Int32
  | 0 => -1
  | j + 1 => if t ≤ nI (wp_lk 500000 0 (40 - j)) then wp_qs t j else nI (40 - j)
theorem cs_quiet (t : Int32) : mj_Cs 134 264 [.int t] := by
  intro E d w c hi hl hE hw hI
  obtain ⟨n, l, q⟩ := iv_I_un.mp hI
  by_cases ht : (1 : Int32) ≤ t ∧ t ≤ nI 999999
  · have h1 : ¬ t < 1 := Int32.not_lt.mpr ht.1
    have h2 : t < 1000000 := by
      have h3 := Int32.le_iff_toInt_le.mp ht.2
      rw [mj_nIi (by omega)] at h3
      rw [Int32.lt_iff_toInt_lt, nl_1000000, mj_nIi (by omega)]; omega
    have hX : ∀ j, j ≤ 40 → ∀ v2, v2 = nI (wp_lk 500000 0 (40 - j)) → mj_den mj_P E (d + 99) 134 20 [.ref 0, .int t, .int v2, .int (nI (41 - j))] [] (mj_hw w c hi hl) = some (some (.int (wp_qs t j)), mj_hw w c hi hl) := by
      intro j
      induction j with
      | zero => intro _ v2 _; rw [q134_20, if_pos (by rw [nl_40, mj_nIlt (by omega) (by omega)]; omega), q134_50]; rfl
      | succ j ih =>
        intro hj v2 hv
        subst hv
        have hb := wp_lk_le 0 (show 500000 ≤ 1000000 by omega) (40 - (j + 1))
        have e1 := s_palX (E := E) (d := d + 97) (w := w) (c := c) (hi := hi) (hl := hl) (q := wp_lk 500000 0 (40 - (j + 1))) (n := 0) (m := 1) hb (by omega) (by omega)
        have e2 : wp_lk (wp_lk 500000 0 (40 - (j + 1))) 0 (0 + 1) = wp_lk 500000 0 (40 - j) := by
          rw [show 40 - j = (40 - (j + 1)) + 1 by omega, wp_lk_1, wp_lk_1, if_neg (by omega), if_neg (by omega)]; rfl
        rw [e2] at e1
        rw [q134_20, if_neg (by rw [nl_40, mj_nIlt (by omega) (by omega)]; omega)]
        rw [show mj_dc mj_P E (d + 99) 8 [.ref 202, .int (nI (wp_lk 500000 0 (40 - (j + 1)))), .int 0, .int 1] (mj_hw w c hi hl) = _ from e1, mj_bi_some, q134_36]
        rw [show wp_qs t (j + 1) = if t ≤ nI (wp_lk 500000 0 (40 - j)) then wp_qs t j else nI (40 - j) from rfl]
        by_cases h : t ≤ nI (wp_lk 500000 0 (40 - j))
        · rw [if_pos h, if_pos h, q134_44, mj_nIs, show 41 - (j + 1) + 1 = 41 - j by omega]
          exact ih (by omega) _ rfl
        · rw [if_neg h, if_neg h, show 41 - (j + 1) = 40 - j by omega]
    have hM : ∀ j, j ≤ 40 → mj_den mj_P E (d + 99) 264 21 [.ref 205, .int t, .int (nI (41 - j))] [] (mj_hw w c (mj_u hi 205 0 0) hl) = some (some (.int (wp_qs t j)), mj_hw w c (mj_u hi 205 0 0) hl) := by
      intro j
      induction j with
      | zero => intro _; rw [q264_21, if_pos (by rw [nl_40, mj_nIlt (by omega) (by omega)]; omega), q264_48]; rfl
      | succ j ih =>
        intro hj
        have e1 := s_lkM (E := E) (d := d + 96) (w := w) (c := c) (hi := mj_u hi 205 0 0) (hl := hl) (p := 500) (n := 0) (m := 40 - j) (by omega) (by omega) (by omega)
        rw [show 1000 * 500 = 500000 from rfl] at e1
        rw [q264_21, if_neg (by rw [nl_40, mj_nIlt (by omega) (by omega)]; omega), show 41 - (j + 1) = 40 - j by omega]
        rw [show mj_dc mj_P E (d + 99) 262 [.ref 205, .int 500, .int 0, .int (nI (40 - j))] (mj_hw w c (mj_u hi 205 0 0) hl) = _ from e1, mj_bi_some, q264_36]
        rw [show wp_qs t (j + 1) = if t ≤ nI (wp_lk 500000 0 (40 - j)) then wp_qs t j else nI (40 - j) from rfl]
        by_cases h : t ≤ nI (wp_lk 500000 0 (40 - j))
        · rw [if_pos h, if_pos h, q264_42, mj_nIs, show 40 - j + 1 = 41 - j by omega]
          exact ih (by omega)
        · rw [if_neg h, if_neg h]
    refine ⟨wp_qs t 40, w, c, hi, hl, mj_u hi 205 0 0, ?_, ?_, iv_told q, hw⟩
    · rw [e134, q134_0, if_neg h1, if_pos h2, q134_14]
      exact hX 40 (by omega) _ rfl
    · rw [e264, q264_0, s_isIn, mj_bi_some, q264_14, nl_999999, if_pos (by rw [mj_q0]; exact fun z => z ht), q264_19]
      exact hM 40 (by omega)
  · refine ⟨-1, w, c, hi, hl, mj_u hi 205 0 0, ?_, ?_, iv_told q, hw⟩
    · rw [e134, q134_0]
      by_cases h1 : t < 1
      · rw [if_pos h1, q134_12]
      · have h2 : ¬ t < 1000000 := fun z => ht ⟨Int32.not_lt.mp h1, by
          have h3 := Int32.lt_iff_toInt_lt.mp z
          rw [nl_1000000, mj_nIi (by omega)] at h3
          rw [Int32.le_iff_toInt_le, mj_nIi (by omega)]; omega⟩
        rw [if_neg h1, if_neg h2, q134_12]
    · rw [e264, q264_0, s_isIn, mj_bi_some, q264_14, nl_999999, if_neg (by rw [mj_q0]; exact fun z => z ht)]
