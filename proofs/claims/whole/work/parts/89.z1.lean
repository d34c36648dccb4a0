/-! the texts of the reader: length, char, index -/
def wx_c (w i : Nat) : Int32 := (mj_b0.getD (w - 3) []).getD i 0
def wx_l (w : Nat) : Nat := mj_bl0.getD (w - 3) 0
def wx_n (x : Int32) : Int32 := ((x &&& 255).toUInt32 % 65536).toInt32
theorem wx_t3 : ∀ i, i < 87 → narrow .char (.int (wx_n (wx_c 3 i))) = .int (wx_n (wx_c 3 i)) ∧ wx_n (wx_c 3 i) = wx_c 3 i := by decide +kernel
theorem wx_t4 : ∀ i, i < 7 → narrow .char (.int (wx_n (wx_c 4 i))) = .int (wx_n (wx_c 4 i)) ∧ wx_n (wx_c 4 i) = wx_c 4 i := by decide +kernel
theorem wx_t5 : ∀ i, i < 14 → narrow .char (.int (wx_n (wx_c 5 i))) = .int (wx_n (wx_c 5 i)) ∧ wx_n (wx_c 5 i) = wx_c 5 i := by decide +kernel
theorem wx_t6 : ∀ i, i < 24 → narrow .char (.int (wx_n (wx_c 6 i))) = .int (wx_n (wx_c 6 i)) ∧ wx_n (wx_c 6 i) = wx_c 6 i := by decide +kernel
section MJZ1
variable {E : mj_E} {d w c : Nat} {hi : mj_HI} {hl : Nat → Nat → Int64}
theorem s_slen3 (hE : mj_EK E) : mj_dc mj_P E (d + 2) 297 [.retAddr 3] (mj_hw w c hi hl) = some (some (.int (nI 87)), mj_hw w c hi hl) := by
  obtain ⟨L, xs, _, rfl⟩ := hE
  have e1 : (mj_Ee L xs 8).1 = 87 := rfl
  have nb : narrow .byte (.int (0 : Int32)) = .int 0 := by decide
  have le : (87 ≤ 65536) = True := eq_true (by decide)
  have sh : (Int32.ofNat 87) >>> ((0 : Int32) &&& 31) = nI 87 := by decide
  have o1 : ¬ (1 : Int32) = 0 := by decide
  simp only [q297_0, q297_0_1, q297_0_2, q297_0_3, q297_0_4, q297_9, q297_9_1, q297_9_2, q297_9_3, q297_9_4, e297, e297_1, e297_2, e297_3, e297_4, q301_0, q301_0_1, q301_0_2, q301_0_3, q301_0_4, q301_13, q301_13_1, q301_13_2, q301_13_3, q301_13_4, q301_14, q301_14_1, q301_14_2, q301_14_3, q301_14_4, e301, e301_1, e301_2, e301_3, e301_4, e1, nb, le, sh, o1, ↓reduceIte, Bool.false_eq_true, eq_self, mj_10, mj_01, mj_n10, mj_0n1, mj_1n1, mj_n11, mj_bi_some, mj_bv_some, mj_bj_some, mj_br_some, mj_r0, mj_r1, mj_q0, mj_q1, mj_b01, mj_q2, if_true, if_false, mj_it, mj_if, true_and, and_true, false_and, and_false, not_true_eq_false, not_false_eq_true, true_or, or_true, false_or, or_false]
theorem s_slen4 (hE : mj_EK E) : mj_dc mj_P E (d + 2) 297 [.retAddr 4] (mj_hw w c hi hl) = some (some (.int (nI 7)), mj_hw w c hi hl) := by
  obtain ⟨L, xs, _, rfl⟩ := hE
  have e1 : (mj_Ee L xs 9).1 = 7 := rfl
  have nb : narrow .byte (.int (0 : Int32)) = .int 0 := by decide
  have le : (7 ≤ 65536) = True := eq_true (by decide)
  have sh : (Int32.ofNat 7) >>> ((0 : Int32) &&& 31) = nI 7 := by decide
  have o1 : ¬ (1 : Int32) = 0 := by decide
  simp only [q297_0, q297_0_1, q297_0_2, q297_0_3, q297_0_4, q297_9, q297_9_1, q297_9_2, q297_9_3, q297_9_4, e297, e297_1, e297_2, e297_3, e297_4, q301_0, q301_0_1, q301_0_2, q301_0_3, q301_0_4, q301_13, q301_13_1, q301_13_2, q301_13_3, q301_13_4, q301_14, q301_14_1, q301_14_2, q301_14_3, q301_14_4, e301, e301_1, e301_2, e301_3, e301_4, e1, nb, le, sh, o1, ↓reduceIte, Bool.false_eq_true, eq_self, mj_10, mj_01, mj_n10, mj_0n1, mj_1n1, mj_n11, mj_bi_some, mj_bv_some, mj_bj_some, mj_br_some, mj_r0, mj_r1, mj_q0, mj_q1, mj_b01, mj_q2, if_true, if_false, mj_it, mj_if, true_and, and_true, false_and, and_false, not_true_eq_false, not_false_eq_true, true_or, or_true, false_or, or_false]
theorem s_slen5 (hE : mj_EK E) : mj_dc mj_P E (d + 2) 297 [.retAddr 5] (mj_hw w c hi hl) = some (some (.int (nI 14)), mj_hw w c hi hl) := by
  obtain ⟨L, xs, _, rfl⟩ := hE
  have e1 : (mj_Ee L xs 10).1 = 14 := rfl
  have nb : narrow .byte (.int (0 : Int32)) = .int 0 := by decide
  have le : (14 ≤ 65536) = True := eq_true (by decide)
  have sh : (Int32.ofNat 14) >>> ((0 : Int32) &&& 31) = nI 14 := by decide
  have o1 : ¬ (1 : Int32) = 0 := by decide
  simp only [q297_0, q297_0_1, q297_0_2, q297_0_3, q297_0_4, q297_9, q297_9_1, q297_9_2, q297_9_3, q297_9_4, e297, e297_1, e297_2, e297_3, e297_4, q301_0, q301_0_1, q301_0_2, q301_0_3, q301_0_4, q301_13, q301_13_1, q301_13_2, q301_13_3, q301_13_4, q301_14, q301_14_1, q301_14_2, q301_14_3, q301_14_4, e301, e301_1, e301_2, e301_3, e301_4, e1, nb, le, sh, o1, ↓reduceIte, Bool.false_eq_true, eq_self, mj_10, mj_01, mj_n10, mj_0n1, mj_1n1, mj_n11, mj_bi_some, mj_bv_some, mj_bj_some, mj_br_some, mj_r0, mj_r1, mj_q0, mj_q1, mj_b01, mj_q2, if_true, if_false, mj_it, mj_if, true_and, and_true, false_and, and_false, not_true_eq_false, not_false_eq_true, true_or, or_true, false_or, or_false]
theorem s_slen6 (hE : mj_EK E) : mj_dc mj_P E (d + 2) 297 [.retAddr 6] (mj_hw w c hi hl) = some (some (.int (nI 24)), mj_hw w c hi hl) := by
  obtain ⟨L, xs, _, rfl⟩ := hE
  have e1 : (mj_Ee L xs 11).1 = 24 := rfl
  have nb : narrow .byte (.int (0 : Int32)) = .int 0 := by decide
  have le : (24 ≤ 65536) = True := eq_true (by decide)
  have sh : (Int32.ofNat 24) >>> ((0 : Int32) &&& 31) = nI 24 := by decide
  have o1 : ¬ (1 : Int32) = 0 := by decide
  simp only [q297_0, q297_0_1, q297_0_2, q297_0_3, q297_0_4, q297_9, q297_9_1, q297_9_2, q297_9_3, q297_9_4, e297, e297_1, e297_2, e297_3, e297_4, q301_0, q301_0_1, q301_0_2, q301_0_3, q301_0_4, q301_13, q301_13_1, q301_13_2, q301_13_3, q301_13_4, q301_14, q301_14_1, q301_14_2, q301_14_3, q301_14_4, e301, e301_1, e301_2, e301_3, e301_4, e1, nb, le, sh, o1, ↓reduceIte, Bool.false_eq_true, eq_self, mj_10, mj_01, mj_n10, mj_0n1, mj_1n1, mj_n11, mj_bi_some, mj_bv_some, mj_bj_some, mj_br_some, mj_r0, mj_r1, mj_q0, mj_q1, mj_b01, mj_q2, if_true, if_false, mj_it, mj_if, true_and, and_true, false_and, and_false, not_true_eq_false, not_false_eq_true, true_or, or_true, false_or, or_false]
theorem s_slen7 (hE : mj_EK E) : mj_dc mj_P E (d + 2) 297 [.retAddr 7] (mj_hw w c hi hl) = some (some (.int (nI 10)), mj_hw w c hi hl) := by
  obtain ⟨L, xs, _, rfl⟩ := hE
  have e1 : (mj_Ee L xs 12).1 = 10 := rfl
  have nb : narrow .byte (.int (0 : Int32)) = .int 0 := by decide
  have le : (10 ≤ 65536) = True := eq_true (by decide)
  have sh : (Int32.ofNat 10) >>> ((0 : Int32) &&& 31) = nI 10 := by decide
  have o1 : ¬ (1 : Int32) = 0 := by decide
  simp only [q297_0, q297_0_1, q297_0_2, q297_0_3, q297_0_4, q297_9, q297_9_1, q297_9_2, q297_9_3, q297_9_4, e297, e297_1, e297_2, e297_3, e297_4, q301_0, q301_0_1, q301_0_2, q301_0_3, q301_0_4, q301_13, q301_13_1, q301_13_2, q301_13_3, q301_13_4, q301_14, q301_14_1, q301_14_2, q301_14_3, q301_14_4, e301, e301_1, e301_2, e301_3, e301_4, e1, nb, le, sh, o1, ↓reduceIte, Bool.false_eq_true, eq_self, mj_10, mj_01, mj_n10, mj_0n1, mj_1n1, mj_n11, mj_bi_some, mj_bv_some, mj_bj_some, mj_br_some, mj_r0, mj_r1, mj_q0, mj_q1, mj_b01, mj_q2, if_true, if_false, mj_it, mj_if, true_and, and_true, false_and, and_false, not_true_eq_false, not_false_eq_true, true_or, or_true, false_or, or_false]
theorem s_sch3 (hE : mj_EK E) {i : Nat} (hi' : i < 87) : mj_dc mj_P E (d + 4) 298 [.retAddr 3, .int (nI i)] (mj_hw w c hi hl) = some (some (.int (wx_c 3 i)), mj_hw w c hi hl) := by
  obtain ⟨L, xs, _, rfl⟩ := hE
  have e1 : (mj_Ee L xs 8).1 = 87 := rfl
  have e2 : (mj_Ee L xs 8).2 i = wx_c 3 i := rfl
  have le : (87 ≤ 65536) = True := eq_true (by decide)
  have o1 : ¬ (1 : Int32) = 0 := by decide
  have l1 : Int32.ofNat 87 = nI 87 := rfl
  obtain ⟨t1, t2⟩ := wx_t3 i hi'
  unfold wx_n at t1 t2
  rw [t2] at t1
  have n1 : ¬ nI i < (0 : Int32) := by rw [mj_ltz (by omega)]; exact fun z => z
  have n2 : nI i < nI 87 := by rw [mj_nIlt (by omega) (by omega)]; exact hi'
  have n3 : (nI i).toNatClampNeg = i := mj_nIc (by omega)
  have n4 : (0 : Int32) ≤ nI i := by rw [mj_nI0 (by omega)]; trivial
  simp only [q298_0, q298_0_1, q298_0_2, q298_0_3, q298_4, q298_4_1, q298_4_2, q298_4_3, q298_15, q298_15_1, q298_15_2, q298_15_3, e298, e298_1, e298_2, e298_3, q302_0, q302_0_1, q302_0_2, q302_0_3, q302_0_4, q302_17, q302_17_1, q302_17_2, q302_17_3, q302_17_4, q302_18, q302_18_1, q302_18_2, q302_18_3, q302_18_4, e302, e302_1, e302_2, e302_3, e302_4, q303_0, q303_8, e303, q305_0, q305_0_1, q305_0_2, q305_0_3, q305_6, q305_6_1, q305_6_2, q305_6_3, e305, e305_1, e305_2, e305_3, q309_0, q309_16, e309, e1, e2, le, o1, l1, t1, t2, n1, n2, n3, n4, hi', ↓reduceIte, Bool.false_eq_true, eq_self, mj_10, mj_01, mj_n10, mj_0n1, mj_1n1, mj_n11, mj_bi_some, mj_bv_some, mj_bj_some, mj_br_some, mj_r0, mj_r1, mj_q0, mj_q1, mj_b01, mj_q2, if_true, if_false, mj_it, mj_if, true_and, and_true, false_and, and_false, not_true_eq_false, not_false_eq_true, true_or, or_true, false_or, or_false, and_self]
theorem s_sch4 (hE : mj_EK E) {i : Nat} (hi' : i < 7) : mj_dc mj_P E (d + 4) 298 [.retAddr 4, .int (nI i)] (mj_hw w c hi hl) = some (some (.int (wx_c 4 i)), mj_hw w c hi hl) := by
  obtain ⟨L, xs, _, rfl⟩ := hE
  have e1 : (mj_Ee L xs 9).1 = 7 := rfl
  have e2 : (mj_Ee L xs 9).2 i = wx_c 4 i := rfl
  have le : (7 ≤ 65536) = True := eq_true (by decide)
  have o1 : ¬ (1 : Int32) = 0 := by decide
  have l1 : Int32.ofNat 7 = nI 7 := rfl
  obtain ⟨t1, t2⟩ := wx_t4 i hi'
  unfold wx_n at t1 t2
  rw [t2] at t1
  have n1 : ¬ nI i < (0 : Int32) := by rw [mj_ltz (by omega)]; exact fun z => z
  have n2 : nI i < nI 7 := by rw [mj_nIlt (by omega) (by omega)]; exact hi'
  have n3 : (nI i).toNatClampNeg = i := mj_nIc (by omega)
  have n4 : (0 : Int32) ≤ nI i := by rw [mj_nI0 (by omega)]; trivial
  simp only [q298_0, q298_0_1, q298_0_2, q298_0_3, q298_4, q298_4_1, q298_4_2, q298_4_3, q298_15, q298_15_1, q298_15_2, q298_15_3, e298, e298_1, e298_2, e298_3, q302_0, q302_0_1, q302_0_2, q302_0_3, q302_0_4, q302_17, q302_17_1, q302_17_2, q302_17_3, q302_17_4, q302_18, q302_18_1, q302_18_2, q302_18_3, q302_18_4, e302, e302_1, e302_2, e302_3, e302_4, q303_0, q303_8, e303, q305_0, q305_0_1, q305_0_2, q305_0_3, q305_6, q305_6_1, q305_6_2, q305_6_3, e305, e305_1, e305_2, e305_3, q309_0, q309_16, e309, e1, e2, le, o1, l1, t1, t2, n1, n2, n3, n4, hi', ↓reduceIte, Bool.false_eq_true, eq_self, mj_10, mj_01, mj_n10, mj_0n1, mj_1n1, mj_n11, mj_bi_some, mj_bv_some, mj_bj_some, mj_br_some, mj_r0, mj_r1, mj_q0, mj_q1, mj_b01, mj_q2, if_true, if_false, mj_it, mj_if, true_and, and_true, false_and, and_false, not_true_eq_false, not_false_eq_true, true_or, or_true, false_or, or_false, and_self]
theorem s_sch5 (hE : mj_EK E) {i : Nat} (hi' : i < 14) : mj_dc mj_P E (d + 4) 298 [.retAddr 5, .int (nI i)] (mj_hw w c hi hl) = some (some (.int (wx_c 5 i)), mj_hw w c hi hl) := by
  obtain ⟨L, xs, _, rfl⟩ := hE
  have e1 : (mj_Ee L xs 10).1 = 14 := rfl
  have e2 : (mj_Ee L xs 10).2 i = wx_c 5 i := rfl
  have le : (14 ≤ 65536) = True := eq_true (by decide)
  have o1 : ¬ (1 : Int32) = 0 := by decide
  have l1 : Int32.ofNat 14 = nI 14 := rfl
  obtain ⟨t1, t2⟩ := wx_t5 i hi'
  unfold wx_n at t1 t2
  rw [t2] at t1
  have n1 : ¬ nI i < (0 : Int32) := by rw [mj_ltz (by omega)]; exact fun z => z
  have n2 : nI i < nI 14 := by rw [mj_nIlt (by omega) (by omega)]; exact hi'
  have n3 : (nI i).toNatClampNeg = i := mj_nIc (by omega)
  have n4 : (0 : Int32) ≤ nI i := by rw [mj_nI0 (by omega)]; trivial
  simp only [q298_0, q298_0_1, q298_0_2, q298_0_3, q298_4, q298_4_1, q298_4_2, q298_4_3, q298_15, q298_15_1, q298_15_2, q298_15_3, e298, e298_1, e298_2, e298_3, q302_0, q302_0_1, q302_0_2, q302_0_3, q302_0_4, q302_17, q302_17_1, q302_17_2, q302_17_3, q302_17_4, q302_18, q302_18_1, q302_18_2, q302_18_3, q302_18_4, e302, e302_1, e302_2, e302_3, e302_4, q303_0, q303_8, e303, q305_0, q305_0_1, q305_0_2, q305_0_3, q305_6, q305_6_1, q305_6_2, q305_6_3, e305, e305_1, e305_2, e305_3, q309_0, q309_16, e309, e1, e2, le, o1, l1, t1, t2, n1, n2, n3, n4, hi', ↓reduceIte, Bool.false_eq_true, eq_self, mj_10, mj_01, mj_n10, mj_0n1, mj_1n1, mj_n11, mj_bi_some, mj_bv_some, mj_bj_some, mj_br_some, mj_r0, mj_r1, mj_q0, mj_q1, mj_b01, mj_q2, if_true, if_false, mj_it, mj_if, true_and, and_true, false_and, and_false, not_true_eq_false, not_false_eq_true, true_or, or_true, false_or, or_false, and_self]
theorem s_sch6 (hE : mj_EK E) {i : Nat} (hi' : i < 24) : mj_dc mj_P E (d + 4) 298 [.retAddr 6, .int (nI i)] (mj_hw w c hi hl) = some (some (.int (wx_c 6 i)), mj_hw w c hi hl) := by
  obtain ⟨L, xs, _, rfl⟩ := hE
  have e1 : (mj_Ee L xs 11).1 = 24 := rfl
  have e2 : (mj_Ee L xs 11).2 i = wx_c 6 i := rfl
  have le : (24 ≤ 65536) = True := eq_true (by decide)
  have o1 : ¬ (1 : Int32) = 0 := by decide
  have l1 : Int32.ofNat 24 = nI 24 := rfl
  obtain ⟨t1, t2⟩ := wx_t6 i hi'
  unfold wx_n at t1 t2
  rw [t2] at t1
  have n1 : ¬ nI i < (0 : Int32) := by rw [mj_ltz (by omega)]; exact fun z => z
  have n2 : nI i < nI 24 := by rw [mj_nIlt (by omega) (by omega)]; exact hi'
  have n3 : (nI i).toNatClampNeg = i := mj_nIc (by omega)
  have n4 : (0 : Int32) ≤ nI i := by rw [mj_nI0 (by omega)]; trivial
  simp only [q298_0, q298_0_1, q298_0_2, q298_0_3, q298_4, q298_4_1, q298_4_2, q298_4_3, q298_15, q298_15_1, q298_15_2, q298_15_3, e298, e298_1, e298_2, e298_3, q302_0, q302_0_1, q302_0_2, q302_0_3, q302_0_4, q302_17, q302_17_1, q302_17_2, q302_17_3, q302_17_4, q302_18, q302_18_1, q302_18_2, q302_18_3, q302_18_4, e302, e302_1, e302_2, e302_3, e302_4, q303_0, q303_8, e303, q305_0, q305_0_1, q305_0_2, q305_0_3, q305_6, q305_6_1, q305_6_2, q305_6_3, e305, e305_1, e305_2, e305_3, q309_0, q309_16, e309, e1, e2, le, o1, l1, t1, t2, n1, n2, n3, n4, hi', ↓reduceIte, Bool.false_eq_true, eq_self, mj_10, mj_01, mj_n10, mj_0n1, mj_1n1, mj_n11, mj_bi_some, mj_bv_some, mj_bj_some, mj_br_some, mj_r0, mj_r1, mj_q0, mj_q1, mj_b01, mj_q2, if_true, if_false, mj_it, mj_if, true_and, and_true, false_and, and_false, not_true_eq_false, not_false_eq_true, true_or, or_true, false_or, or_false, and_self]
theorem wx_ix : ∀ c, c < 256 → ((∃ k, k < 10 ∧ wx_c 7 k = nI c) ↔ (c = 59 ∨ c = 43 ∨ c = 45 ∨ c = 42 ∨ c = 47 ∨ c = 40 ∨ c = 41 ∨ c = 60 ∨ c = 61 ∨ c = 62)) := by decide +kernel
theorem wx_i8 : ∀ c, c < 256 → ∀ k, k < 10 → (wx_c 7 k = (nI c).toInt8.toInt32 ↔ wx_c 7 k = nI c) := by decide +kernel
/-- a char among the signs -/
theorem s_sidx (hE : mj_EK E) {x : Nat} (hx : x < 256) : ∃ v : Int32, mj_dc mj_P E (d + 6) 299 [.retAddr 7, .int (nI x)] (mj_hw w c hi hl) = some (some (.int v), mj_hw w c hi hl) ∧ (v < 0 ↔ ¬ (x = 59 ∨ x = 43 ∨ x = 45 ∨ x = 42 ∨ x = 47 ∨ x = 40 ∨ x = 41 ∨ x = 60 ∨ x = 61 ∨ x = 62)) := by
  have e297 := s_slen7 (E := E) (d := d + 2) (w := w) (c := c) (hi := hi) (hl := hl) hE
  obtain ⟨L, xs, _, rfl⟩ := hE
  have e1 : (mj_Ee L xs 12).1 = 10 := rfl
  have e2 : ∀ k, (mj_Ee L xs 12).2 k = wx_c 7 k := fun _ => rfl
  have o1 : ¬ (1 : Int32) = 0 := by decide
  have n1 : ¬ nI x < (0 : Int32) := by rw [mj_ltz (by omega)]; exact fun z => z
  have n2 : ¬ (255 : Int32) < nI x := by rw [show (255 : Int32) = nI 255 from rfl, mj_nIlt (by omega) (by omega)]; omega
  have le : ((10 : Nat) ≤ 65536) = True := eq_true (by decide)
  have m1 : ∀ d', mj_dc mj_P (mj_Ee L xs) (d' + 1) 295 [.int 0, .int 0] (mj_hw w c hi hl) = some (some (.int 0), mj_hw w c hi hl) := fun d' => by rw [s_max2]; rfl
  have m2 : ∀ d', mj_dc mj_P (mj_Ee L xs) (d' + 1) 296 [.int (nI 10), .int (Int32.ofNat 10)] (mj_hw w c hi hl) = some (some (.int (nI 10)), mj_hw w c hi hl) := fun d' => by rw [s_min2]; rfl
  have z10 : (0 : Int32) < nI 10 := by decide
  -- the search itself
  have hgo : ∃ v : Int32, mj_dc mj_P (mj_Ee L xs) (d + 3) 308 [.retAddr 12, .int (nI x), .int 0, .int (nI 10)] (mj_hw w c hi hl) = some (some (.int v), mj_hw w c hi hl) ∧ (v < 0 ↔ ¬ ∃ k, k < 10 ∧ wx_c 7 k = nI x) := by
    have hst : ∀ k, k < 10 → ¬ wx_c 7 k = nI x → mj_den mj_P (mj_Ee L xs) (d + 2) 308 7 [.retAddr 12, .int (nI x), .int 0, .int (nI 10), .int (nI x).toInt8.toInt32, .int (nI k)] [] (mj_hw w c hi hl) = mj_den mj_P (mj_Ee L xs) (d + 2) 308 7 [.retAddr 12, .int (nI x), .int 0, .int (nI 10), .int (nI x).toInt8.toInt32, .int (nI (k + 1))] [] (mj_hw w c hi hl) := fun k hk hne => by
      have hne2 : ¬ wx_c 7 k = (nI x).toInt8.toInt32 := fun z => hne ((wx_i8 x hx k hk).mp z)
      have a1 : ¬ nI 10 ≤ nI k := by rw [mj_nIle (by omega) (by omega)]; omega
      have a2 : (0 ≤ nI k ∧ (nI k).toNatClampNeg < 10) := ⟨by rw [mj_nI0 (by omega)]; trivial, by rw [mj_nIc (by omega)]; exact hk⟩
      have a3 : (nI k).toNatClampNeg = k := mj_nIc (by omega)
      rw [q308_7, if_neg a1, e1, if_pos (by decide), if_pos a2, a3, e2, if_pos hne2, q308_25, mj_nIs]
    rcases lp_fst (fun k => wx_c 7 k = nI x) 10 with hall | ⟨k, k1, k2, k3⟩
    · have l1 := lp_up (fun k => mj_den mj_P (mj_Ee L xs) (d + 2) 308 7 [.retAddr 12, .int (nI x), .int 0, .int (nI 10), .int (nI x).toInt8.toInt32, .int (nI k)] [] (mj_hw w c hi hl)) 10 (fun k hk => hst k hk (hall k hk))
      have l1' : mj_den mj_P (mj_Ee L xs) (d + 2) 308 7 [.retAddr 12, .int (nI x), .int 0, .int (nI 10), .int (nI x).toInt8.toInt32, .int 0] [] (mj_hw w c hi hl) = mj_den mj_P (mj_Ee L xs) (d + 2) 308 7 [.retAddr 12, .int (nI x), .int 0, .int (nI 10), .int (nI x).toInt8.toInt32, .int (nI 10)] [] (mj_hw w c hi hl) := l1
      refine ⟨-1, ?_, ⟨fun _ ⟨k, k1, k2⟩ => hall k k1 k2, fun _ => by decide⟩⟩
      rw [e308, q308_0, l1', q308_7, if_pos (Int32.le_refl _), q308_31]
    · have l1 := lp_up (fun k => mj_den mj_P (mj_Ee L xs) (d + 2) 308 7 [.retAddr 12, .int (nI x), .int 0, .int (nI 10), .int (nI x).toInt8.toInt32, .int (nI k)] [] (mj_hw w c hi hl)) k (fun j hj => hst j (by omega) (k3 j hj))
      have l1' : mj_den mj_P (mj_Ee L xs) (d + 2) 308 7 [.retAddr 12, .int (nI x), .int 0, .int (nI 10), .int (nI x).toInt8.toInt32, .int 0] [] (mj_hw w c hi hl) = mj_den mj_P (mj_Ee L xs) (d + 2) 308 7 [.retAddr 12, .int (nI x), .int 0, .int (nI 10), .int (nI x).toInt8.toInt32, .int (nI k)] [] (mj_hw w c hi hl) := l1
      have a1 : ¬ nI 10 ≤ nI k := by rw [mj_nIle (by omega) (by omega)]; omega
      have a2 : (0 ≤ nI k ∧ (nI k).toNatClampNeg < 10) := ⟨by rw [mj_nI0 (by omega)]; trivial, by rw [mj_nIc (by omega)]; exact k1⟩
      have a3 : (nI k).toNatClampNeg = k := mj_nIc (by omega)
      have a4 : ¬ ¬ wx_c 7 k = (nI x).toInt8.toInt32 := fun z => z ((wx_i8 x hx k k1).mpr k2)
      refine ⟨nI k, ?_, ⟨fun h => absurd h (by rw [mj_ltz (by omega)]; exact fun z => z), fun h => absurd ⟨k, k1, k2⟩ h⟩⟩
      rw [e308, q308_0, l1', q308_7, if_neg a1, e1, if_pos (by decide), if_pos a2, a3, e2, if_neg a4]
  obtain ⟨v, ev, hv⟩ := hgo
  refine ⟨v, ?_, by rw [hv, wx_ix x hx]⟩
  have m1' := m1 (d + 3)
  have m2' := m2 (d + 3)
  simp only [q299_0, q299_6, e299, q300_0, q300_4, q300_17, q300_20, q300_23, q300_36, e300, q302_0, q302_0_1, q302_0_2, q302_0_3, q302_0_4, q302_17, q302_17_1, q302_17_2, q302_17_3, q302_17_4, q302_18, q302_18_1, q302_18_2, q302_18_3, q302_18_4, e302, e302_1, e302_2, e302_3, e302_4, q306_0, q306_15, q306_16, e306, q307_0, q307_4, q307_9, q307_14, q307_21, q307_29, q307_36, e307, e297, e1, le, o1, n1, n2, m1, m2, z10, ev, ↓reduceIte, Bool.false_eq_true, eq_self, mj_10, mj_01, mj_n10, mj_0n1, mj_1n1, mj_n11, mj_bi_some, mj_bv_some, mj_bj_some, mj_br_some, mj_r0, mj_r1, mj_q0, mj_q1, mj_b01, mj_q2, if_true, if_false, mj_it, mj_if, true_and, and_true, false_and, and_false, not_true_eq_false, not_false_eq_true, true_or, or_true, false_or, or_false]
end MJZ1
