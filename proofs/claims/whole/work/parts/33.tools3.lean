/-! small tools: truth values, ranges, sums of literals -/
theorem mj_q0 (p : Prop) [Decidable p] : (mj_b p = 0) = ¬ p := by
  apply propext; unfold mj_b; by_cases h : p
  · rw [if_pos h]; exact ⟨fun z => absurd z (by decide), fun z => absurd h z⟩
  · rw [if_neg h]; exact ⟨fun _ => h, fun _ => rfl⟩
theorem mj_q1 (p : Prop) [Decidable p] : (mj_b p = 1) = p := by
  apply propext; unfold mj_b; by_cases h : p
  · rw [if_pos h]; exact ⟨fun _ => h, fun _ => rfl⟩
  · rw [if_neg h]; exact ⟨fun z => absurd z (by decide), fun z => absurd z h⟩
theorem mj_bt : mj_b True = 1 := rfl
theorem mj_bf : mj_b False = 0 := rfl
theorem mj_bc {p q : Prop} [Decidable p] [Decidable q] (h : p ↔ q) : mj_b p = mj_b q := by
  unfold mj_b; by_cases hp : p
  · rw [if_pos hp, if_pos (h.mp hp)]
  · rw [if_neg hp, if_neg (fun z => hp (h.mpr z))]
theorem mj_q2 (p : Prop) : (¬ ¬ p) = p := propext Classical.not_not
theorem mj_it {α : Type} (a b : α) [dd : Decidable True] : @ite α True dd a b = a := if_pos trivial
theorem mj_if {α : Type} (a b : α) [dd : Decidable False] : @ite α False dd a b = b := if_neg (fun z => z)
theorem mj_ofn {a : Int32} (h0 : 0 ≤ a) : ∃ k, k < 2147483648 ∧ a = nI k := by
  have h1 := Int32.le_iff_toInt_le.mp h0
  have h2 : (0 : Int32).toInt = 0 := rfl
  rw [h2] at h1
  have h3 := Int32.toInt_lt a
  refine ⟨a.toInt.toNat, by omega, Int32.toInt_inj.mp ?_⟩
  rw [mj_nIi (by omega)]; omega
/-- in its bounds a number, or not in its bounds -/
theorem mj_rng (a : Int32) {n : Nat} (hn : n < 2147483648) : (∃ k, k ≤ n ∧ a = nI k) ∨ ¬ (0 ≤ a ∧ a ≤ nI n) := by
  by_cases h : 0 ≤ a ∧ a ≤ nI n
  · obtain ⟨k, hk, rfl⟩ := mj_ofn h.1
    have := h.2
    rw [mj_nIle hk hn] at this
    exact Or.inl ⟨k, this, rfl⟩
  · exact Or.inr h
/-- a member's number, or none -/
theorem mj_mem (a : Int32) {n : Nat} (hn : n < 2147483648) : (∃ k, k < n ∧ a = nI k) ∨ (a < 0 ∨ nI n ≤ a) := by
  by_cases h : 0 ≤ a
  · obtain ⟨k, hk, rfl⟩ := mj_ofn h
    by_cases h2 : k < n
    · exact Or.inl ⟨k, h2, rfl⟩
    · refine Or.inr (Or.inr ?_); rw [mj_nIle hn hk]; omega
  · exact Or.inr (Or.inl (Int32.not_le.mp h))
theorem na_0 : (0 : Int32) + 1 = 1 := rfl
theorem na_1 : (1 : Int32) + 1 = 2 := rfl
theorem na_2 : (2 : Int32) + 1 = 3 := rfl
theorem na_3 : (3 : Int32) + 1 = 4 := rfl
theorem na_4 : (4 : Int32) + 1 = 5 := rfl
theorem na_5 : (5 : Int32) + 1 = 6 := rfl
theorem na_6 : (6 : Int32) + 1 = 7 := rfl
theorem na_7 : (7 : Int32) + 1 = 8 := rfl
theorem na_8 : (8 : Int32) + 1 = 9 := rfl
theorem na_9 : (9 : Int32) + 1 = 10 := rfl
theorem na_10 : (10 : Int32) + 1 = 11 := rfl
theorem na_11 : (11 : Int32) + 1 = 12 := rfl
theorem na_12 : (12 : Int32) + 1 = 13 := rfl
theorem na_13 : (13 : Int32) + 1 = 14 := rfl
theorem na_14 : (14 : Int32) + 1 = 15 := rfl
theorem na_15 : (15 : Int32) + 1 = 16 := rfl
theorem na_16 : (16 : Int32) + 1 = 17 := rfl
theorem na_17 : (17 : Int32) + 1 = 18 := rfl
theorem na_18 : (18 : Int32) + 1 = 19 := rfl
theorem na_19 : (19 : Int32) + 1 = 20 := rfl
theorem na_20 : (20 : Int32) + 1 = 21 := rfl
theorem na_21 : (21 : Int32) + 1 = 22 := rfl
theorem na_22 : (22 : Int32) + 1 = 23 := rfl
theorem na_23 : (23 : Int32) + 1 = 24 := rfl
theorem na_24 : (24 : Int32) + 1 = 25 := rfl
theorem na_25 : (25 : Int32) + 1 = 26 := rfl
theorem na_26 : (26 : Int32) + 1 = 27 := rfl
theorem na_27 : (27 : Int32) + 1 = 28 := rfl
theorem na_28 : (28 : Int32) + 1 = 29 := rfl
theorem na_29 : (29 : Int32) + 1 = 30 := rfl
theorem na_30 : (30 : Int32) + 1 = 31 := rfl
theorem na_31 : (31 : Int32) + 1 = 32 := rfl
theorem na_32 : (32 : Int32) + 1 = 33 := rfl
theorem na_33 : (33 : Int32) + 1 = 34 := rfl
theorem na_34 : (34 : Int32) + 1 = 35 := rfl
theorem na_35 : (35 : Int32) + 1 = 36 := rfl
theorem na_36 : (36 : Int32) + 1 = 37 := rfl
theorem na_37 : (37 : Int32) + 1 = 38 := rfl
theorem na_38 : (38 : Int32) + 1 = 39 := rfl
theorem na_39 : (39 : Int32) + 1 = 40 := rfl
theorem na_40 : (40 : Int32) + 1 = 41 := rfl
theorem na_41 : (41 : Int32) + 1 = 42 := rfl
theorem na_42 : (42 : Int32) + 1 = 43 := rfl
theorem na_43 : (43 : Int32) + 1 = 44 := rfl
theorem na_44 : (44 : Int32) + 1 = 45 := rfl
theorem mj_10 : ((1 : Int32) = 0) = False := eq_false (by decide)
theorem mj_01 : ((0 : Int32) = 1) = False := eq_false (by decide)
theorem mj_n10 : ((-1 : Int32) = 0) = False := eq_false (by decide)
theorem mj_0n1 : ((0 : Int32) = -1) = False := eq_false (by decide)
theorem mj_1n1 : ((1 : Int32) = -1) = False := eq_false (by decide)
theorem mj_n11 : ((-1 : Int32) = 1) = False := eq_false (by decide)
theorem mj_u_cong {f g : Nat → Nat → Int32} {a k b i : Nat} {v : Int32} (h : f a k = g a k) : mj_u f b i v a k = mj_u g b i v a k := by
  unfold mj_u; rw [h]
theorem mj_u_row {f : Nat → Nat → Int32} {a b i : Nat} {v : Int32} (h : b ≠ a) : mj_u f a i v b = f b := by
  funext k; exact if_neg (fun z => h z.1)
theorem mj_u_pt {f : Nat → Nat → Int32} {a b i k : Nat} {v : Int32} (h : b ≠ a ∨ k ≠ i) : mj_u f a i v b k = f b k := by
  refine if_neg (fun z => ?_)
  rcases h with h | h
  · exact h z.1
  · exact h z.2
theorem mj_ur_row {f : Nat → Nat → Int32} {a b : Nat} {g : Nat → Int32} (h : b ≠ a) : mj_ur f a g b = f b := by
  funext k; exact if_neg h
theorem mj_ur_eq {f : Nat → Nat → Int32} {a : Nat} {g : Nat → Int32} : mj_ur f a g a = g := by
  funext k; exact if_pos rfl
section MJ33
variable (E : mj_E) (d w c : Nat) (hi : Nat → Nat → Int32) (hl : Nat → Nat → Int64)
theorem s_isIn (a b e : Int32) : mj_dc mj_P E (d + 1) 152 [.ref 205, .int a, .int b, .int e] (mj_hw w c hi hl) = some (some (.int (mj_b (b ≤ a ∧ a ≤ e))), mj_hw w c hi hl) := by
  rw [e152, q152_0, q152_14, q152_15, q152_15, mj_r0, mj_r1]
  unfold mj_b
  by_cases h1 : a < b
  · rw [if_pos h1, if_neg (fun z => absurd z.1 (Int32.not_le.mpr h1))]
  · rw [if_neg h1]
    by_cases h2 : e < a
    · rw [if_pos h2, if_neg (fun z => absurd z.2 (Int32.not_le.mpr h2))]
    · rw [if_neg h2, if_pos ⟨Int32.not_lt.mp h1, Int32.not_lt.mp h2⟩]
theorem s_greater (a b : Int32) : mj_dc mj_P E (d + 1) 154 [.ref 205, .int a, .int b] (mj_hw w c hi hl) = some (some (.int (if a < b then b else a)), mj_hw w c hi hl) := by
  rw [e154, q154_0, q154_9, q154_10, q154_10]
  by_cases h : a ≤ b
  · rw [if_pos h]
    by_cases h2 : a < b
    · rw [if_pos h2]
    · rw [if_neg h2, show a = b from Int32.le_antisymm h (Int32.not_lt.mp h2)]
  · rw [if_neg h, if_neg (fun z => h (Int32.le_of_lt z))]
theorem s_lesser (a b : Int32) : mj_dc mj_P E (d + 1) 155 [.ref 205, .int a, .int b] (mj_hw w c hi hl) = some (some (.int (if b < a then b else a)), mj_hw w c hi hl) := by
  rw [e155, q155_0, q155_9, q155_10, q155_10]
  by_cases h : b ≤ a
  · rw [if_pos h]
    by_cases h2 : b < a
    · rw [if_pos h2]
    · rw [if_neg h2, show b = a from Int32.le_antisymm h (Int32.not_lt.mp h2)]
  · rw [if_neg h, if_neg (fun z => h (Int32.le_of_lt z))]
theorem s_forget : mj_dc mj_P E (d + 1) 45 [.ref 91] (mj_hw w c hi hl) = some (none, mj_hw w c (mj_u hi 91 0 0) hl) := by
  rw [e45, q45_0]
theorem s_isDealerX (a : Int32) : mj_dc mj_P E (d + 1) 70 [.ref 2, .int a] (mj_hw w c hi hl) = some (some (.int (mj_b (¬ a < 0 ∧ ¬ hi 2 0 ≤ a ∧ ¬ (10 : Int32) ≤ a))), mj_hw w c hi hl) := by
  rw [e70_1, q70_0, q70_22, q70_23, q70_23, mj_r0, mj_r1]
  unfold mj_b
  by_cases h1 : a < 0
  · rw [if_pos h1, if_neg (fun z => z.1 h1)]
  · rw [if_neg h1]
    by_cases h2 : hi 2 0 ≤ a
    · rw [if_pos h2, if_neg (fun z => z.2.1 h2)]
    · rw [if_neg h2]
      by_cases h3 : (10 : Int32) ≤ a
      · rw [if_pos h3, if_neg (fun z => z.2.2 h3)]
      · rw [if_neg h3, if_pos ⟨h1, h2, h3⟩]
theorem s_isDealerXi (a : Int32) : mj_dc mj_P E (d + 1) 70 [.ref 177, .int a] (mj_hw w c hi hl) = some (some (.int (mj_b (¬ a < 0 ∧ ¬ hi 177 0 ≤ a ∧ ¬ (10 : Int32) ≤ a))), mj_hw w c hi hl) := by
  rw [e70, q70_0_1, q70_22_1, q70_23_1, q70_23_1, mj_r0, mj_r1]
  unfold mj_b
  by_cases h1 : a < 0
  · rw [if_pos h1, if_neg (fun z => z.1 h1)]
  · rw [if_neg h1]
    by_cases h2 : hi 177 0 ≤ a
    · rw [if_pos h2, if_neg (fun z => z.2.1 h2)]
    · rw [if_neg h2]
      by_cases h3 : (10 : Int32) ≤ a
      · rw [if_pos h3, if_neg (fun z => z.2.2 h3)]
      · rw [if_neg h3, if_pos ⟨h1, h2, h3⟩]
theorem s_isLotX (a : Int32) : mj_dc mj_P E (d + 1) 71 [.ref 2, .int a] (mj_hw w c hi hl) = some (some (.int (mj_b (¬ a < 0 ∧ ¬ hi 2 1 ≤ a ∧ ¬ (12 : Int32) ≤ a))), mj_hw w c hi hl) := by
  rw [e71_1, q71_0, q71_22, q71_23, q71_23, mj_r0, mj_r1]
  unfold mj_b
  by_cases h1 : a < 0
  · rw [if_pos h1, if_neg (fun z => z.1 h1)]
  · rw [if_neg h1]
    by_cases h2 : hi 2 1 ≤ a
    · rw [if_pos h2, if_neg (fun z => z.2.1 h2)]
    · rw [if_neg h2]
      by_cases h3 : (12 : Int32) ≤ a
      · rw [if_pos h3, if_neg (fun z => z.2.2 h3)]
      · rw [if_neg h3, if_pos ⟨h1, h2, h3⟩]
theorem s_isLotXi (a : Int32) : mj_dc mj_P E (d + 1) 71 [.ref 177, .int a] (mj_hw w c hi hl) = some (some (.int (mj_b (¬ a < 0 ∧ ¬ hi 177 1 ≤ a ∧ ¬ (12 : Int32) ≤ a))), mj_hw w c hi hl) := by
  rw [e71, q71_0_1, q71_22_1, q71_23_1, q71_23_1, mj_r0, mj_r1]
  unfold mj_b
  by_cases h1 : a < 0
  · rw [if_pos h1, if_neg (fun z => z.1 h1)]
  · rw [if_neg h1]
    by_cases h2 : hi 177 1 ≤ a
    · rw [if_pos h2, if_neg (fun z => z.2.1 h2)]
    · rw [if_neg h2]
      by_cases h3 : (12 : Int32) ≤ a
      · rw [if_pos h3, if_neg (fun z => z.2.2 h3)]
      · rw [if_neg h3, if_pos ⟨h1, h2, h3⟩]
end MJ33
/-- is a dealer, a lot -/
theorem mj_dlX {n : Nat} {a x : Int32} {m : Nat} (hn : n ≤ m) (hm : m < 2147483648) (hx : x = nI n) : (¬ a < 0 ∧ ¬ x ≤ a ∧ ¬ nI m ≤ a) ↔ (0 ≤ a ∧ a < nI n) := by
  subst hx
  constructor
  · rintro ⟨h1, h2, _⟩; exact ⟨Int32.not_lt.mp h1, Int32.not_le.mp h2⟩
  · rintro ⟨h1, h2⟩
    refine ⟨Int32.not_lt.mpr h1, Int32.not_le.mpr h2, Int32.not_le.mpr ?_⟩
    have h3 := Int32.lt_iff_toInt_lt.mp h2
    rw [mj_nIi (by omega)] at h3
    rw [Int32.lt_iff_toInt_lt, mj_nIi hm]; omega
section MJ33b
variable {E : mj_E} {d w c : Nat} {hi : Nat → Nat → Int32} {hl : Nat → Nat → Int64}
theorem s_dlX {n : Nat} (hn : n ≤ 10) (hx : hi 2 0 = nI n) (a : Int32) : mj_dc mj_P E (d + 1) 70 [.ref 2, .int a] (mj_hw w c hi hl) = some (some (.int (mj_b (0 ≤ a ∧ a < nI n))), mj_hw w c hi hl) := by
  rw [s_isDealerX, nl_10, mj_bc (mj_dlX (m := 10) hn (by omega) hx)]
theorem s_dlI {n : Nat} (hn : n ≤ 10) (hx : hi 177 0 = nI n) (a : Int32) : mj_dc mj_P E (d + 1) 70 [.ref 177, .int a] (mj_hw w c hi hl) = some (some (.int (mj_b (0 ≤ a ∧ a < nI n))), mj_hw w c hi hl) := by
  rw [s_isDealerXi, nl_10, mj_bc (mj_dlX (m := 10) hn (by omega) hx)]
theorem s_ltX {n : Nat} (hn : n ≤ 12) (hx : hi 2 1 = nI n) (a : Int32) : mj_dc mj_P E (d + 1) 71 [.ref 2, .int a] (mj_hw w c hi hl) = some (some (.int (mj_b (0 ≤ a ∧ a < nI n))), mj_hw w c hi hl) := by
  rw [s_isLotX, nl_12, mj_bc (mj_dlX (m := 12) hn (by omega) hx)]
theorem s_ltI {n : Nat} (hn : n ≤ 12) (hx : hi 177 1 = nI n) (a : Int32) : mj_dc mj_P E (d + 1) 71 [.ref 177, .int a] (mj_hw w c hi hl) = some (some (.int (mj_b (0 ≤ a ∧ a < nI n))), mj_hw w c hi hl) := by
  rw [s_isLotXi, nl_12, mj_bc (mj_dlX (m := 12) hn (by omega) hx)]
theorem s_dlM {n : Nat} (hx : hi 205 6 = nI n) (a : Int32) : mj_dc mj_P E (d + 1) 164 [.ref 205, .int a] (mj_hw w c hi hl) = some (some (.int (mj_b (0 ≤ a ∧ a < nI n))), mj_hw w c hi hl) := by
  rw [e164, q164_0, q164_16, q164_17, q164_17, mj_r0, mj_r1, hx]
  unfold mj_b
  by_cases h1 : a < 0
  · rw [if_pos h1, if_neg (fun z => absurd z.1 (Int32.not_le.mpr h1))]
  · rw [if_neg h1]
    by_cases h2 : nI n ≤ a
    · rw [if_pos h2, if_neg (fun z => absurd z.2 (Int32.not_lt.mpr h2))]
    · rw [if_neg h2, if_pos ⟨Int32.not_lt.mp h1, Int32.not_le.mp h2⟩]
theorem s_ltM {n : Nat} (hx : hi 205 7 = nI n) (a : Int32) : mj_dc mj_P E (d + 1) 165 [.ref 205, .int a] (mj_hw w c hi hl) = some (some (.int (mj_b (0 ≤ a ∧ a < nI n))), mj_hw w c hi hl) := by
  rw [e165, q165_0, q165_16, q165_17, q165_17, mj_r0, mj_r1, hx]
  unfold mj_b
  by_cases h1 : a < 0
  · rw [if_pos h1, if_neg (fun z => absurd z.1 (Int32.not_le.mpr h1))]
  · rw [if_neg h1]
    by_cases h2 : nI n ≤ a
    · rw [if_pos h2, if_neg (fun z => absurd z.2 (Int32.not_lt.mpr h2))]
    · rw [if_neg h2, if_pos ⟨Int32.not_lt.mp h1, Int32.not_le.mp h2⟩]
theorem s_soldM {k : Nat} (hk : k < 12) : mj_dc mj_P E (d + 1) 166 [.ref 205, .int (nI k)] (mj_hw w c hi hl) = some (some (.int (hi 206 (45 + k) - 1)), mj_hw w c hi hl) := by
  rw [e166, q166_0]
  simp (disch := omega) only [↓reduceIte, Bool.false_eq_true, eq_self, mj_10, mj_01, mj_n10, mj_0n1, mj_1n1, mj_n11, mj_bi_some, mj_bv_some, mj_bj_some, mj_br_some, mj_r0, mj_r1, mj_q0, mj_q1, mj_b01, mj_q2, if_true, if_false, mj_it, mj_if, true_and, and_true, false_and, and_false, not_true_eq_false, not_false_eq_true, true_or, or_true, false_or, or_false, mj_nIle, mj_nIlt, mj_nIeq, mj_nI0, mj_nIc, mj_nIadd, mj_nIs, mj_ez, mj_ze, mj_eo, mj_ltz, mj_lez, mj_zlt, mj_olt, mj_lto, mj_leo, mj_ole, mj_nIn, mj_nnI, nl_2, nl_3, nl_4, nl_5, nl_6, nl_7, nl_8, nl_9, nl_10, nl_11, nl_12, nl_13, nl_14, nl_15, nl_16, nl_17, nl_18, nl_19, nl_20, nl_21, nl_22, nl_23, nl_24, nl_25, nl_26, nl_27, nl_28, nl_29, nl_30, nl_32, nl_33, nl_34, nl_35, nl_36, nl_37, nl_38, nl_39, nl_40, nl_41, nl_42, nl_43, nl_44, nl_45, nl_46, nl_47, nl_48, nl_49, nl_50, nl_51, nl_52, nl_53, nl_54, nl_55, nl_56, nl_57, nl_58, nl_59, nl_60, nl_61, nl_62, nl_64, nl_65, nl_66, nl_67, nl_68, nl_69, nl_92, nl_97, nl_99, nl_100, nl_122, nl_127, nl_128, nl_131, nl_132, nl_150, nl_200, nl_255, nl_256, nl_300, nl_342, nl_380, nl_381, nl_400, nl_401, nl_420, nl_500, nl_600, nl_800, nl_999, nl_1000, nl_1023, nl_1024, nl_1200, nl_2048, nl_2100, nl_4096, nl_9999, nl_10000, nl_10240, nl_999999, nl_1000000, if_pos, if_neg]
end MJ33b
/-- a number below n, or not: as the tests ask it -/
theorem mj_dl (a : Int32) {n : Nat} (hn : n < 2147483648) : (∃ k, k < n ∧ a = nI k ∧ (0 ≤ a ∧ a < nI n)) ∨ ¬ (0 ≤ a ∧ a < nI n) := by
  by_cases h : 0 ≤ a ∧ a < nI n
  · obtain ⟨k, hk, rfl⟩ := mj_ofn h.1
    have h2 := h.2
    rw [mj_nIlt hk hn] at h2
    exact Or.inl ⟨k, h2, rfl, h⟩
  · exact Or.inr h
