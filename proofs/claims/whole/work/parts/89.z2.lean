/-! keywords: where they stand, in the texts of the class and in the row of the reference -/
def kO (w j : Nat) : Nat := (if w = 3 then [0, 6, 12, 17, 22, 25, 29, 33, 39, 44, 50, 57, 62, 68, 73, 80, 85, 88] else if w = 4 then [0, 4, 8] else if w = 5 then [0, 7, 15] else [0, 4, 8, 14, 19, 25] : List Nat).getD j 0
def kN (w : Nat) : Nat := if w = 3 then 17 else if w = 4 then 2 else if w = 5 then 2 else 5
def kZ (w j : Nat) : Nat := kO w (j + 1) - kO w j - 1
def rO (j : Nat) : Nat := ([1, 7, 13, 18, 23, 26, 30, 34, 40, 45, 51, 58, 63, 69, 74, 81, 86, 89, 93, 97, 104, 112, 116, 122, 126, 132] : List Nat).getD j 0
def rZ (j : Nat) : Nat := rO (j + 1) - rO j - 1
def kK (w j : Nat) : Nat := if w = 3 then j else if w = 4 then 17 + j else if w = 5 then 19 + j else ([21, 23, 24, 15, 22] : List Nat).getD j 0
def kV (w i : Nat) : Int32 := if i < wx_l w then wx_c w i else 32
def rV (i : Nat) : Int32 := iv_wds.getD i 0
theorem kd_3 : kO 3 0 = 0 ∧ ∀ j, j < kN 3 → kO 3 (j + 1) = kO 3 j + kZ 3 j + 1 ∧ kO 3 j + kZ 3 j ≤ wx_l 3 ∧ kV 3 (kO 3 j + kZ 3 j) = 32 ∧ kZ 3 j < 10 ∧ ∀ r, r < kZ 3 j → ¬ kV 3 (kO 3 j + r) = 32 := by decide +kernel
theorem kr_3 : ∀ j, j < kN 3 → kK 3 j < 25 ∧ kZ 3 j = rZ (kK 3 j) ∧ ∀ r, r < kZ 3 j → kV 3 (kO 3 j + r) = rV (rO (kK 3 j) + r) := by decide +kernel
theorem ki_3 : ∀ j, j < kN 3 → ∀ i, i < kN 3 → kK 3 j = kK 3 i → j = i := by decide +kernel
theorem kd_4 : kO 4 0 = 0 ∧ ∀ j, j < kN 4 → kO 4 (j + 1) = kO 4 j + kZ 4 j + 1 ∧ kO 4 j + kZ 4 j ≤ wx_l 4 ∧ kV 4 (kO 4 j + kZ 4 j) = 32 ∧ kZ 4 j < 10 ∧ ∀ r, r < kZ 4 j → ¬ kV 4 (kO 4 j + r) = 32 := by decide +kernel
theorem kr_4 : ∀ j, j < kN 4 → kK 4 j < 25 ∧ kZ 4 j = rZ (kK 4 j) ∧ ∀ r, r < kZ 4 j → kV 4 (kO 4 j + r) = rV (rO (kK 4 j) + r) := by decide +kernel
theorem ki_4 : ∀ j, j < kN 4 → ∀ i, i < kN 4 → kK 4 j = kK 4 i → j = i := by decide +kernel
theorem kd_5 : kO 5 0 = 0 ∧ ∀ j, j < kN 5 → kO 5 (j + 1) = kO 5 j + kZ 5 j + 1 ∧ kO 5 j + kZ 5 j ≤ wx_l 5 ∧ kV 5 (kO 5 j + kZ 5 j) = 32 ∧ kZ 5 j < 10 ∧ ∀ r, r < kZ 5 j → ¬ kV 5 (kO 5 j + r) = 32 := by decide +kernel
theorem kr_5 : ∀ j, j < kN 5 → kK 5 j < 25 ∧ kZ 5 j = rZ (kK 5 j) ∧ ∀ r, r < kZ 5 j → kV 5 (kO 5 j + r) = rV (rO (kK 5 j) + r) := by decide +kernel
theorem ki_5 : ∀ j, j < kN 5 → ∀ i, i < kN 5 → kK 5 j = kK 5 i → j = i := by decide +kernel
theorem kd_6 : kO 6 0 = 0 ∧ ∀ j, j < kN 6 → kO 6 (j + 1) = kO 6 j + kZ 6 j + 1 ∧ kO 6 j + kZ 6 j ≤ wx_l 6 ∧ kV 6 (kO 6 j + kZ 6 j) = 32 ∧ kZ 6 j < 10 ∧ ∀ r, r < kZ 6 j → ¬ kV 6 (kO 6 j + r) = 32 := by decide +kernel
theorem kr_6 : ∀ j, j < kN 6 → kK 6 j < 25 ∧ kZ 6 j = rZ (kK 6 j) ∧ ∀ r, r < kZ 6 j → kV 6 (kO 6 j + r) = rV (rO (kK 6 j) + r) := by decide +kernel
theorem ki_6 : ∀ j, j < kN 6 → ∀ i, i < kN 6 → kK 6 j = kK 6 i → j = i := by decide +kernel
theorem kd {w : Nat} (hw : 3 ≤ w ∧ w ≤ 6) : kO w 0 = 0 ∧ ∀ j, j < kN w → kO w (j + 1) = kO w j + kZ w j + 1 ∧ kO w j + kZ w j ≤ wx_l w ∧ kV w (kO w j + kZ w j) = 32 ∧ kZ w j < 10 ∧ ∀ r, r < kZ w j → ¬ kV w (kO w j + r) = 32 := by
  rcases (show w = 3 ∨ w = 4 ∨ w = 5 ∨ w = 6 by omega) with rfl | rfl | rfl | rfl
  · exact kd_3
  · exact kd_4
  · exact kd_5
  · exact kd_6
theorem kr {w : Nat} (hw : 3 ≤ w ∧ w ≤ 6) : ∀ j, j < kN w → kK w j < 25 ∧ kZ w j = rZ (kK w j) ∧ ∀ r, r < kZ w j → kV w (kO w j + r) = rV (rO (kK w j) + r) := by
  rcases (show w = 3 ∨ w = 4 ∨ w = 5 ∨ w = 6 by omega) with rfl | rfl | rfl | rfl
  · exact kr_3
  · exact kr_4
  · exact kr_5
  · exact kr_6
theorem ki {w : Nat} (hw : 3 ≤ w ∧ w ≤ 6) : ∀ j, j < kN w → ∀ i, i < kN w → kK w j = kK w i → j = i := by
  rcases (show w = 3 ∨ w = 4 ∨ w = 5 ∨ w = 6 by omega) with rfl | rfl | rfl | rfl
  · exact ki_3
  · exact ki_4
  · exact ki_5
  · exact ki_6
theorem kl {w : Nat} (hw : 3 ≤ w ∧ w ≤ 6) : wx_l w ≤ 87 ∧ kN w ≤ 17 ∧ kO w (kN w) = wx_l w + 1 := by
  rcases (show w = 3 ∨ w = 4 ∨ w = 5 ∨ w = 6 by omega) with rfl | rfl | rfl | rfl <;> decide
theorem rd : rO 0 = 1 ∧ rO 25 = 132 ∧ ∀ j, j < 25 → rO (j + 1) = rO j + rZ j + 1 ∧ rV (rO j + rZ j) = 32 ∧ rZ j < 10 ∧ rO j + rZ j ≤ 131 ∧ ∀ r, r < rZ j → ¬ rV (rO j + r) = 32 := by decide +kernel
theorem ri : ∀ a, a < 25 → ∀ b, b < 25 → rZ a = rZ b → (∀ r, r < rZ a → rV (rO a + r) = rV (rO b + r)) → a = b := by decide +kernel
/-- the letters from a to b are keyword j -/
def kE (Y : Nat → Int32) (a b w j : Nat) : Prop := b - a = kZ w j ∧ ∀ r, r < kZ w j → Y (a + r) = kV w (kO w j + r)
def rE (Y : Nat → Int32) (a b j : Nat) : Prop := b - a = rZ j ∧ ∀ r, r < rZ j → Y (a + r) = rV (rO j + r)
/-- what both find -/
theorem k_rel {Y : Nat → Int32} {a b w : Nat} {v u : Int32} (hw : 3 ≤ w ∧ w ≤ 6) (hv : (∃ j, j < kN w ∧ v = nI j ∧ kE Y a b w j) ∨ (v = -1 ∧ ∀ j, j < kN w → ¬ kE Y a b w j)) (hu : (∃ j, j < 25 ∧ u = nI j ∧ rE Y a b j) ∨ (u = -1 ∧ ∀ j, j < 25 → ¬ rE Y a b j)) : (∃ j, j < kN w ∧ v = nI j ∧ u = nI (kK w j)) ∨ (v = -1 ∧ (u = -1 ∨ ∃ x, x < 25 ∧ u = nI x ∧ ∀ j, j < kN w → x ≠ kK w j)) := by
  have hkr : ∀ j, j < kN w → kE Y a b w j → rE Y a b (kK w j) := fun j hj h => by
    obtain ⟨h1, h2, h3⟩ := kr hw j hj
    exact ⟨by rw [← h2]; exact h.1, fun r hr => by rw [← h2] at hr; rw [h.2 r hr, h3 r hr]⟩
  have hun : ∀ x y, x < 25 → y < 25 → rE Y a b x → rE Y a b y → x = y := fun x y hx hy h1 h2 => ri x hx y hy (by rw [← h1.1, ← h2.1]) (fun r hr => by rw [← h1.2 r hr, h2.2 r (by rw [← h2.1, h1.1]; exact hr)])
  rcases hv with ⟨j, j1, j2, j3⟩ | ⟨v1, v2⟩
  · have h1 := hkr j j1 j3
    rcases hu with ⟨x, x1, x2, x3⟩ | ⟨u1, u2⟩
    · exact Or.inl ⟨j, j1, j2, by rw [x2, hun x _ x1 (kr hw j j1).1 x3 h1]⟩
    · exact absurd h1 (u2 _ (kr hw j j1).1)
  · refine Or.inr ⟨v1, ?_⟩
    rcases hu with ⟨x, x1, x2, x3⟩ | ⟨u1, u2⟩
    · refine Or.inr ⟨x, x1, x2, fun j hj hx => v2 j hj ?_⟩
      obtain ⟨h1, h2, h3⟩ := kr hw j hj
      rw [hx] at x3
      exact ⟨by rw [h2]; exact x3.1, fun r hr => by rw [h3 r hr]; exact x3.2 r (by rw [← h2]; exact hr)⟩
    · exact Or.inl u1
section MJZ2
variable {E : mj_E} {d c : Nat} {hi : mj_HI} {hl : Nat → Nat → Int64}
theorem s_kst3 (hE : mj_EK E) {i : Nat} (hi' : i ≤ 87) (v1 v2 v3 v4 : Int32) {u6 : Value} (hu : u6 = .float 0 ∨ ∃ v, u6 = .int v) : mj_den mj_P E (d + 4) 54 8 [.ref 159, .int v1, .int v2, .int v3, .int v4, .int (nI i), u6] [] (mj_hw 3 c hi hl) = mj_den mj_P E (d + 4) 54 46 [.ref 159, .int v1, .int v2, .int v3, .int v4, .int (nI i), u6] [.int (kV 3 i)] (mj_hw 3 c hi hl) := by
  have e1 := s_slen3 (E := E) (d := d + 2) (w := 3) (c := c) (hi := hi) (hl := hl) hE
  have n1 : ¬ nI 87 < nI i := by rw [mj_nIlt (by omega) (by omega)]; omega
  by_cases h : i < 87
  · have n2 : ¬ nI 87 ≤ nI i := by rw [mj_nIle (by omega) (by omega)]; omega
    have e2 := s_sch3 (E := E) (d := d) (w := 3) (c := c) (hi := hi) (hl := hl) hE h
    have e3 : kV 3 i = wx_c 3 i := if_pos h
    rw [e3]
    rcases hu with rfl | ⟨v, rfl⟩
    · simp only [q54_8, q54_8_1, q54_8_2, q54_8_3, q54_8_4, q54_8_5, q54_8_6, q54_8_7, q54_17, q54_17_1, q54_17_2, q54_17_3, q54_17_4, q54_17_5, q54_17_6, q54_17_7, q54_29, q54_29_1, q54_29_2, q54_29_3, q54_29_4, q54_29_5, q54_29_6, q54_29_7, q54_41, q54_41_1, q54_44, q54_44_1, e1, e2, n1, n2, ↓reduceIte, Bool.false_eq_true, eq_self, mj_10, mj_01, mj_n10, mj_0n1, mj_1n1, mj_n11, mj_bi_some, mj_bv_some, mj_bj_some, mj_br_some, mj_r0, mj_r1, mj_q0, mj_q1, mj_b01, mj_q2, if_true, if_false, mj_it, mj_if, true_and, and_true, false_and, and_false, not_true_eq_false, not_false_eq_true, true_or, or_true, false_or, or_false]
    · simp only [q54_8, q54_8_1, q54_8_2, q54_8_3, q54_8_4, q54_8_5, q54_8_6, q54_8_7, q54_17, q54_17_1, q54_17_2, q54_17_3, q54_17_4, q54_17_5, q54_17_6, q54_17_7, q54_29, q54_29_1, q54_29_2, q54_29_3, q54_29_4, q54_29_5, q54_29_6, q54_29_7, q54_41, q54_41_1, q54_44, q54_44_1, e1, e2, n1, n2, ↓reduceIte, Bool.false_eq_true, eq_self, mj_10, mj_01, mj_n10, mj_0n1, mj_1n1, mj_n11, mj_bi_some, mj_bv_some, mj_bj_some, mj_br_some, mj_r0, mj_r1, mj_q0, mj_q1, mj_b01, mj_q2, if_true, if_false, mj_it, mj_if, true_and, and_true, false_and, and_false, not_true_eq_false, not_false_eq_true, true_or, or_true, false_or, or_false]
  · have n2 : nI 87 ≤ nI i := by rw [mj_nIle (by omega) (by omega)]; omega
    have e3 : kV 3 i = 32 := if_neg h
    rw [e3]
    rcases hu with rfl | ⟨v, rfl⟩
    · simp only [q54_8, q54_8_1, q54_8_2, q54_8_3, q54_8_4, q54_8_5, q54_8_6, q54_8_7, q54_17, q54_17_1, q54_17_2, q54_17_3, q54_17_4, q54_17_5, q54_17_6, q54_17_7, q54_29, q54_29_1, q54_29_2, q54_29_3, q54_29_4, q54_29_5, q54_29_6, q54_29_7, q54_41, q54_41_1, q54_44, q54_44_1, e1, n1, n2, ↓reduceIte, Bool.false_eq_true, eq_self, mj_10, mj_01, mj_n10, mj_0n1, mj_1n1, mj_n11, mj_bi_some, mj_bv_some, mj_bj_some, mj_br_some, mj_r0, mj_r1, mj_q0, mj_q1, mj_b01, mj_q2, if_true, if_false, mj_it, mj_if, true_and, and_true, false_and, and_false, not_true_eq_false, not_false_eq_true, true_or, or_true, false_or, or_false]
    · simp only [q54_8, q54_8_1, q54_8_2, q54_8_3, q54_8_4, q54_8_5, q54_8_6, q54_8_7, q54_17, q54_17_1, q54_17_2, q54_17_3, q54_17_4, q54_17_5, q54_17_6, q54_17_7, q54_29, q54_29_1, q54_29_2, q54_29_3, q54_29_4, q54_29_5, q54_29_6, q54_29_7, q54_41, q54_41_1, q54_44, q54_44_1, e1, n1, n2, ↓reduceIte, Bool.false_eq_true, eq_self, mj_10, mj_01, mj_n10, mj_0n1, mj_1n1, mj_n11, mj_bi_some, mj_bv_some, mj_bj_some, mj_br_some, mj_r0, mj_r1, mj_q0, mj_q1, mj_b01, mj_q2, if_true, if_false, mj_it, mj_if, true_and, and_true, false_and, and_false, not_true_eq_false, not_false_eq_true, true_or, or_true, false_or, or_false]
theorem s_kend3 (hE : mj_EK E) (v1 v2 v3 v4 : Int32) {u6 : Value} (hu : u6 = .float 0 ∨ ∃ v, u6 = .int v) : mj_den mj_P E (d + 4) 54 8 [.ref 159, .int v1, .int v2, .int v3, .int v4, .int (nI 88), u6] [] (mj_hw 3 c hi hl) = some (some (.int (-1)), mj_hw 3 c hi hl) := by
  have e1 := s_slen3 (E := E) (d := d + 2) (w := 3) (c := c) (hi := hi) (hl := hl) hE
  have n1 : nI 87 < nI 88 := by decide
  rcases hu with rfl | ⟨v, rfl⟩
  · simp only [q54_8, q54_8_1, q54_8_2, q54_8_3, q54_8_4, q54_8_5, q54_8_6, q54_8_7, q54_17, q54_17_1, q54_17_2, q54_17_3, q54_17_4, q54_17_5, q54_17_6, q54_17_7, q54_29, q54_29_1, q54_29_2, q54_29_3, q54_29_4, q54_29_5, q54_29_6, q54_29_7, q54_41, q54_41_1, q54_44, q54_44_1, q54_118, q54_118_1, e1, n1, ↓reduceIte, Bool.false_eq_true, eq_self, mj_10, mj_01, mj_n10, mj_0n1, mj_1n1, mj_n11, mj_bi_some, mj_bv_some, mj_bj_some, mj_br_some, mj_r0, mj_r1, mj_q0, mj_q1, mj_b01, mj_q2, if_true, if_false, mj_it, mj_if, true_and, and_true, false_and, and_false, not_true_eq_false, not_false_eq_true, true_or, or_true, false_or, or_false]
  · simp only [q54_8, q54_8_1, q54_8_2, q54_8_3, q54_8_4, q54_8_5, q54_8_6, q54_8_7, q54_17, q54_17_1, q54_17_2, q54_17_3, q54_17_4, q54_17_5, q54_17_6, q54_17_7, q54_29, q54_29_1, q54_29_2, q54_29_3, q54_29_4, q54_29_5, q54_29_6, q54_29_7, q54_41, q54_41_1, q54_44, q54_44_1, q54_118, q54_118_1, e1, n1, ↓reduceIte, Bool.false_eq_true, eq_self, mj_10, mj_01, mj_n10, mj_0n1, mj_1n1, mj_n11, mj_bi_some, mj_bv_some, mj_bj_some, mj_br_some, mj_r0, mj_r1, mj_q0, mj_q1, mj_b01, mj_q2, if_true, if_false, mj_it, mj_if, true_and, and_true, false_and, and_false, not_true_eq_false, not_false_eq_true, true_or, or_true, false_or, or_false]
theorem s_kst4 (hE : mj_EK E) {i : Nat} (hi' : i ≤ 7) (v1 v2 v3 v4 : Int32) {u6 : Value} (hu : u6 = .float 0 ∨ ∃ v, u6 = .int v) : mj_den mj_P E (d + 4) 54 8 [.ref 159, .int v1, .int v2, .int v3, .int v4, .int (nI i), u6] [] (mj_hw 4 c hi hl) = mj_den mj_P E (d + 4) 54 46 [.ref 159, .int v1, .int v2, .int v3, .int v4, .int (nI i), u6] [.int (kV 4 i)] (mj_hw 4 c hi hl) := by
  have e1 := s_slen4 (E := E) (d := d + 2) (w := 4) (c := c) (hi := hi) (hl := hl) hE
  have n1 : ¬ nI 7 < nI i := by rw [mj_nIlt (by omega) (by omega)]; omega
  by_cases h : i < 7
  · have n2 : ¬ nI 7 ≤ nI i := by rw [mj_nIle (by omega) (by omega)]; omega
    have e2 := s_sch4 (E := E) (d := d) (w := 4) (c := c) (hi := hi) (hl := hl) hE h
    have e3 : kV 4 i = wx_c 4 i := if_pos h
    rw [e3]
    rcases hu with rfl | ⟨v, rfl⟩
    · simp only [q54_8, q54_8_1, q54_8_2, q54_8_3, q54_8_4, q54_8_5, q54_8_6, q54_8_7, q54_17, q54_17_1, q54_17_2, q54_17_3, q54_17_4, q54_17_5, q54_17_6, q54_17_7, q54_29, q54_29_1, q54_29_2, q54_29_3, q54_29_4, q54_29_5, q54_29_6, q54_29_7, q54_41, q54_41_1, q54_44, q54_44_1, e1, e2, n1, n2, ↓reduceIte, Bool.false_eq_true, eq_self, mj_10, mj_01, mj_n10, mj_0n1, mj_1n1, mj_n11, mj_bi_some, mj_bv_some, mj_bj_some, mj_br_some, mj_r0, mj_r1, mj_q0, mj_q1, mj_b01, mj_q2, if_true, if_false, mj_it, mj_if, true_and, and_true, false_and, and_false, not_true_eq_false, not_false_eq_true, true_or, or_true, false_or, or_false]
    · simp only [q54_8, q54_8_1, q54_8_2, q54_8_3, q54_8_4, q54_8_5, q54_8_6, q54_8_7, q54_17, q54_17_1, q54_17_2, q54_17_3, q54_17_4, q54_17_5, q54_17_6, q54_17_7, q54_29, q54_29_1, q54_29_2, q54_29_3, q54_29_4, q54_29_5, q54_29_6, q54_29_7, q54_41, q54_41_1, q54_44, q54_44_1, e1, e2, n1, n2, ↓reduceIte, Bool.false_eq_true, eq_self, mj_10, mj_01, mj_n10, mj_0n1, mj_1n1, mj_n11, mj_bi_some, mj_bv_some, mj_bj_some, mj_br_some, mj_r0, mj_r1, mj_q0, mj_q1, mj_b01, mj_q2, if_true, if_false, mj_it, mj_if, true_and, and_true, false_and, and_false, not_true_eq_false, not_false_eq_true, true_or, or_true, false_or, or_false]
  · have n2 : nI 7 ≤ nI i := by rw [mj_nIle (by omega) (by omega)]; omega
    have e3 : kV 4 i = 32 := if_neg h
    rw [e3]
    rcases hu with rfl | ⟨v, rfl⟩
    · simp only [q54_8, q54_8_1, q54_8_2, q54_8_3, q54_8_4, q54_8_5, q54_8_6, q54_8_7, q54_17, q54_17_1, q54_17_2, q54_17_3, q54_17_4, q54_17_5, q54_17_6, q54_17_7, q54_29, q54_29_1, q54_29_2, q54_29_3, q54_29_4, q54_29_5, q54_29_6, q54_29_7, q54_41, q54_41_1, q54_44, q54_44_1, e1, n1, n2, ↓reduceIte, Bool.false_eq_true, eq_self, mj_10, mj_01, mj_n10, mj_0n1, mj_1n1, mj_n11, mj_bi_some, mj_bv_some, mj_bj_some, mj_br_some, mj_r0, mj_r1, mj_q0, mj_q1, mj_b01, mj_q2, if_true, if_false, mj_it, mj_if, true_and, and_true, false_and, and_false, not_true_eq_false, not_false_eq_true, true_or, or_true, false_or, or_false]
    · simp only [q54_8, q54_8_1, q54_8_2, q54_8_3, q54_8_4, q54_8_5, q54_8_6, q54_8_7, q54_17, q54_17_1, q54_17_2, q54_17_3, q54_17_4, q54_17_5, q54_17_6, q54_17_7, q54_29, q54_29_1, q54_29_2, q54_29_3, q54_29_4, q54_29_5, q54_29_6, q54_29_7, q54_41, q54_41_1, q54_44, q54_44_1, e1, n1, n2, ↓reduceIte, Bool.false_eq_true, eq_self, mj_10, mj_01, mj_n10, mj_0n1, mj_1n1, mj_n11, mj_bi_some, mj_bv_some, mj_bj_some, mj_br_some, mj_r0, mj_r1, mj_q0, mj_q1, mj_b01, mj_q2, if_true, if_false, mj_it, mj_if, true_and, and_true, false_and, and_false, not_true_eq_false, not_false_eq_true, true_or, or_true, false_or, or_false]
theorem s_kend4 (hE : mj_EK E) (v1 v2 v3 v4 : Int32) {u6 : Value} (hu : u6 = .float 0 ∨ ∃ v, u6 = .int v) : mj_den mj_P E (d + 4) 54 8 [.ref 159, .int v1, .int v2, .int v3, .int v4, .int (nI 8), u6] [] (mj_hw 4 c hi hl) = some (some (.int (-1)), mj_hw 4 c hi hl) := by
  have e1 := s_slen4 (E := E) (d := d + 2) (w := 4) (c := c) (hi := hi) (hl := hl) hE
  have n1 : nI 7 < nI 8 := by decide
  rcases hu with rfl | ⟨v, rfl⟩
  · simp only [q54_8, q54_8_1, q54_8_2, q54_8_3, q54_8_4, q54_8_5, q54_8_6, q54_8_7, q54_17, q54_17_1, q54_17_2, q54_17_3, q54_17_4, q54_17_5, q54_17_6, q54_17_7, q54_29, q54_29_1, q54_29_2, q54_29_3, q54_29_4, q54_29_5, q54_29_6, q54_29_7, q54_41, q54_41_1, q54_44, q54_44_1, q54_118, q54_118_1, e1, n1, ↓reduceIte, Bool.false_eq_true, eq_self, mj_10, mj_01, mj_n10, mj_0n1, mj_1n1, mj_n11, mj_bi_some, mj_bv_some, mj_bj_some, mj_br_some, mj_r0, mj_r1, mj_q0, mj_q1, mj_b01, mj_q2, if_true, if_false, mj_it, mj_if, true_and, and_true, false_and, and_false, not_true_eq_false, not_false_eq_true, true_or, or_true, false_or, or_false]
  · simp only [q54_8, q54_8_1, q54_8_2, q54_8_3, q54_8_4, q54_8_5, q54_8_6, q54_8_7, q54_17, q54_17_1, q54_17_2, q54_17_3, q54_17_4, q54_17_5, q54_17_6, q54_17_7, q54_29, q54_29_1, q54_29_2, q54_29_3, q54_29_4, q54_29_5, q54_29_6, q54_29_7, q54_41, q54_41_1, q54_44, q54_44_1, q54_118, q54_118_1, e1, n1, ↓reduceIte, Bool.false_eq_true, eq_self, mj_10, mj_01, mj_n10, mj_0n1, mj_1n1, mj_n11, mj_bi_some, mj_bv_some, mj_bj_some, mj_br_some, mj_r0, mj_r1, mj_q0, mj_q1, mj_b01, mj_q2, if_true, if_false, mj_it, mj_if, true_and, and_true, false_and, and_false, not_true_eq_false, not_false_eq_true, true_or, or_true, false_or, or_false]
theorem s_kst5 (hE : mj_EK E) {i : Nat} (hi' : i ≤ 14) (v1 v2 v3 v4 : Int32) {u6 : Value} (hu : u6 = .float 0 ∨ ∃ v, u6 = .int v) : mj_den mj_P E (d + 4) 54 8 [.ref 159, .int v1, .int v2, .int v3, .int v4, .int (nI i), u6] [] (mj_hw 5 c hi hl) = mj_den mj_P E (d + 4) 54 46 [.ref 159, .int v1, .int v2, .int v3, .int v4, .int (nI i), u6] [.int (kV 5 i)] (mj_hw 5 c hi hl) := by
  have e1 := s_slen5 (E := E) (d := d + 2) (w := 5) (c := c) (hi := hi) (hl := hl) hE
  have n1 : ¬ nI 14 < nI i := by rw [mj_nIlt (by omega) (by omega)]; omega
  by_cases h : i < 14
  · have n2 : ¬ nI 14 ≤ nI i := by rw [mj_nIle (by omega) (by omega)]; omega
    have e2 := s_sch5 (E := E) (d := d) (w := 5) (c := c) (hi := hi) (hl := hl) hE h
    have e3 : kV 5 i = wx_c 5 i := if_pos h
    rw [e3]
    rcases hu with rfl | ⟨v, rfl⟩
    · simp only [q54_8, q54_8_1, q54_8_2, q54_8_3, q54_8_4, q54_8_5, q54_8_6, q54_8_7, q54_17, q54_17_1, q54_17_2, q54_17_3, q54_17_4, q54_17_5, q54_17_6, q54_17_7, q54_29, q54_29_1, q54_29_2, q54_29_3, q54_29_4, q54_29_5, q54_29_6, q54_29_7, q54_41, q54_41_1, q54_44, q54_44_1, e1, e2, n1, n2, ↓reduceIte, Bool.false_eq_true, eq_self, mj_10, mj_01, mj_n10, mj_0n1, mj_1n1, mj_n11, mj_bi_some, mj_bv_some, mj_bj_some, mj_br_some, mj_r0, mj_r1, mj_q0, mj_q1, mj_b01, mj_q2, if_true, if_false, mj_it, mj_if, true_and, and_true, false_and, and_false, not_true_eq_false, not_false_eq_true, true_or, or_true, false_or, or_false]
    · simp only [q54_8, q54_8_1, q54_8_2, q54_8_3, q54_8_4, q54_8_5, q54_8_6, q54_8_7, q54_17, q54_17_1, q54_17_2, q54_17_3, q54_17_4, q54_17_5, q54_17_6, q54_17_7, q54_29, q54_29_1, q54_29_2, q54_29_3, q54_29_4, q54_29_5, q54_29_6, q54_29_7, q54_41, q54_41_1, q54_44, q54_44_1, e1, e2, n1, n2, ↓reduceIte, Bool.false_eq_true, eq_self, mj_10, mj_01, mj_n10, mj_0n1, mj_1n1, mj_n11, mj_bi_some, mj_bv_some, mj_bj_some, mj_br_some, mj_r0, mj_r1, mj_q0, mj_q1, mj_b01, mj_q2, if_true, if_false, mj_it, mj_if, true_and, and_true, false_and, and_false, not_true_eq_false, not_false_eq_true, true_or, or_true, false_or, or_false]
  · have n2 : nI 14 ≤ nI i := by rw [mj_nIle (by omega) (by omega)]; omega
    have e3 : kV 5 i = 32 := if_neg h
    rw [e3]
    rcases hu with rfl | ⟨v, rfl⟩
    · simp only [q54_8, q54_8_1, q54_8_2, q54_8_3, q54_8_4, q54_8_5, q54_8_6, q54_8_7, q54_17, q54_17_1, q54_17_2, q54_17_3, q54_17_4, q54_17_5, q54_17_6, q54_17_7, q54_29, q54_29_1, q54_29_2, q54_29_3, q54_29_4, q54_29_5, q54_29_6, q54_29_7, q54_41, q54_41_1, q54_44, q54_44_1, e1, n1, n2, ↓reduceIte, Bool.false_eq_true, eq_self, mj_10, mj_01, mj_n10, mj_0n1, mj_1n1, mj_n11, mj_bi_some, mj_bv_some, mj_bj_some, mj_br_some, mj_r0, mj_r1, mj_q0, mj_q1, mj_b01, mj_q2, if_true, if_false, mj_it, mj_if, true_and, and_true, false_and, and_false, not_true_eq_false, not_false_eq_true, true_or, or_true, false_or, or_false]
    · simp only [q54_8, q54_8_1, q54_8_2, q54_8_3, q54_8_4, q54_8_5, q54_8_6, q54_8_7, q54_17, q54_17_1, q54_17_2, q54_17_3, q54_17_4, q54_17_5, q54_17_6, q54_17_7, q54_29, q54_29_1, q54_29_2, q54_29_3, q54_29_4, q54_29_5, q54_29_6, q54_29_7, q54_41, q54_41_1, q54_44, q54_44_1, e1, n1, n2, ↓reduceIte, Bool.false_eq_true, eq_self, mj_10, mj_01, mj_n10, mj_0n1, mj_1n1, mj_n11, mj_bi_some, mj_bv_some, mj_bj_some, mj_br_some, mj_r0, mj_r1, mj_q0, mj_q1, mj_b01, mj_q2, if_true, if_false, mj_it, mj_if, true_and, and_true, false_and, and_false, not_true_eq_false, not_false_eq_true, true_or, or_true, false_or, or_false]
theorem s_kend5 (hE : mj_EK E) (v1 v2 v3 v4 : Int32) {u6 : Value} (hu : u6 = .float 0 ∨ ∃ v, u6 = .int v) : mj_den mj_P E (d + 4) 54 8 [.ref 159, .int v1, .int v2, .int v3, .int v4, .int (nI 15), u6] [] (mj_hw 5 c hi hl) = some (some (.int (-1)), mj_hw 5 c hi hl) := by
  have e1 := s_slen5 (E := E) (d := d + 2) (w := 5) (c := c) (hi := hi) (hl := hl) hE
  have n1 : nI 14 < nI 15 := by decide
  rcases hu with rfl | ⟨v, rfl⟩
  · simp only [q54_8, q54_8_1, q54_8_2, q54_8_3, q54_8_4, q54_8_5, q54_8_6, q54_8_7, q54_17, q54_17_1, q54_17_2, q54_17_3, q54_17_4, q54_17_5, q54_17_6, q54_17_7, q54_29, q54_29_1, q54_29_2, q54_29_3, q54_29_4, q54_29_5, q54_29_6, q54_29_7, q54_41, q54_41_1, q54_44, q54_44_1, q54_118, q54_118_1, e1, n1, ↓reduceIte, Bool.false_eq_true, eq_self, mj_10, mj_01, mj_n10, mj_0n1, mj_1n1, mj_n11, mj_bi_some, mj_bv_some, mj_bj_some, mj_br_some, mj_r0, mj_r1, mj_q0, mj_q1, mj_b01, mj_q2, if_true, if_false, mj_it, mj_if, true_and, and_true, false_and, and_false, not_true_eq_false, not_false_eq_true, true_or, or_true, false_or, or_false]
  · simp only [q54_8, q54_8_1, q54_8_2, q54_8_3, q54_8_4, q54_8_5, q54_8_6, q54_8_7, q54_17, q54_17_1, q54_17_2, q54_17_3, q54_17_4, q54_17_5, q54_17_6, q54_17_7, q54_29, q54_29_1, q54_29_2, q54_29_3, q54_29_4, q54_29_5, q54_29_6, q54_29_7, q54_41, q54_41_1, q54_44, q54_44_1, q54_118, q54_118_1, e1, n1, ↓reduceIte, Bool.false_eq_true, eq_self, mj_10, mj_01, mj_n10, mj_0n1, mj_1n1, mj_n11, mj_bi_some, mj_bv_some, mj_bj_some, mj_br_some, mj_r0, mj_r1, mj_q0, mj_q1, mj_b01, mj_q2, if_true, if_false, mj_it, mj_if, true_and, and_true, false_and, and_false, not_true_eq_false, not_false_eq_true, true_or, or_true, false_or, or_false]
theorem s_kst6 (hE : mj_EK E) {i : Nat} (hi' : i ≤ 24) (v1 v2 v3 v4 : Int32) {u6 : Value} (hu : u6 = .float 0 ∨ ∃ v, u6 = .int v) : mj_den mj_P E (d + 4) 54 8 [.ref 159, .int v1, .int v2, .int v3, .int v4, .int (nI i), u6] [] (mj_hw 6 c hi hl) = mj_den mj_P E (d + 4) 54 46 [.ref 159, .int v1, .int v2, .int v3, .int v4, .int (nI i), u6] [.int (kV 6 i)] (mj_hw 6 c hi hl) := by
  have e1 := s_slen6 (E := E) (d := d + 2) (w := 6) (c := c) (hi := hi) (hl := hl) hE
  have n1 : ¬ nI 24 < nI i := by rw [mj_nIlt (by omega) (by omega)]; omega
  by_cases h : i < 24
  · have n2 : ¬ nI 24 ≤ nI i := by rw [mj_nIle (by omega) (by omega)]; omega
    have e2 := s_sch6 (E := E) (d := d) (w := 6) (c := c) (hi := hi) (hl := hl) hE h
    have e3 : kV 6 i = wx_c 6 i := if_pos h
    rw [e3]
    rcases hu with rfl | ⟨v, rfl⟩
    · simp only [q54_8, q54_8_1, q54_8_2, q54_8_3, q54_8_4, q54_8_5, q54_8_6, q54_8_7, q54_17, q54_17_1, q54_17_2, q54_17_3, q54_17_4, q54_17_5, q54_17_6, q54_17_7, q54_29, q54_29_1, q54_29_2, q54_29_3, q54_29_4, q54_29_5, q54_29_6, q54_29_7, q54_41, q54_41_1, q54_44, q54_44_1, e1, e2, n1, n2, ↓reduceIte, Bool.false_eq_true, eq_self, mj_10, mj_01, mj_n10, mj_0n1, mj_1n1, mj_n11, mj_bi_some, mj_bv_some, mj_bj_some, mj_br_some, mj_r0, mj_r1, mj_q0, mj_q1, mj_b01, mj_q2, if_true, if_false, mj_it, mj_if, true_and, and_true, false_and, and_false, not_true_eq_false, not_false_eq_true, true_or, or_true, false_or, or_false]
    · simp only [q54_8, q54_8_1, q54_8_2, q54_8_3, q54_8_4, q54_8_5, q54_8_6, q54_8_7, q54_17, q54_17_1, q54_17_2, q54_17_3, q54_17_4, q54_17_5, q54_17_6, q54_17_7, q54_29, q54_29_1, q54_29_2, q54_29_3, q54_29_4, q54_29_5, q54_29_6, q54_29_7, q54_41, q54_41_1, q54_44, q54_44_1, e1, e2, n1, n2, ↓reduceIte, Bool.false_eq_true, eq_self, mj_10, mj_01, mj_n10, mj_0n1, mj_1n1, mj_n11, mj_bi_some, mj_bv_some, mj_bj_some, mj_br_some, mj_r0, mj_r1, mj_q0, mj_q1, mj_b01, mj_q2, if_true, if_false, mj_it, mj_if, true_and, and_true, false_and, and_false, not_true_eq_false, not_false_eq_true, true_or, or_true, false_or, or_false]
  · have n2 : nI 24 ≤ nI i := by rw [mj_nIle (by omega) (by omega)]; omega
    have e3 : kV 6 i = 32 := if_neg h
    rw [e3]
    rcases hu with rfl | ⟨v, rfl⟩
    · simp only [q54_8, q54_8_1, q54_8_2, q54_8_3, q54_8_4, q54_8_5, q54_8_6, q54_8_7, q54_17, q54_17_1, q54_17_2, q54_17_3, q54_17_4, q54_17_5, q54_17_6, q54_17_7, q54_29, q54_29_1, q54_29_2, q54_29_3, q54_29_4, q54_29_5, q54_29_6, q54_29_7, q54_41, q54_41_1, q54_44, q54_44_1, e1, n1, n2, ↓reduceIte, Bool.false_eq_true, eq_self, mj_10, mj_01, mj_n10, mj_0n1, mj_1n1, mj_n11, mj_bi_some, mj_bv_some, mj_bj_some, mj_br_some, mj_r0, mj_r1, mj_q0, mj_q1, mj_b01, mj_q2, if_true, if_false, mj_it, mj_if, true_and, and_true, false_and, and_false, not_true_eq_false, not_false_eq_true, true_or, or_true, false_or, or_false]
    · simp only [q54_8, q54_8_1, q54_8_2, q54_8_3, q54_8_4, q54_8_5, q54_8_6, q54_8_7, q54_17, q54_17_1, q54_17_2, q54_17_3, q54_17_4, q54_17_5, q54_17_6, q54_17_7, q54_29, q54_29_1, q54_29_2, q54_29_3, q54_29_4, q54_29_5, q54_29_6, q54_29_7, q54_41, q54_41_1, q54_44, q54_44_1, e1, n1, n2, ↓reduceIte, Bool.false_eq_true, eq_self, mj_10, mj_01, mj_n10, mj_0n1, mj_1n1, mj_n11, mj_bi_some, mj_bv_some, mj_bj_some, mj_br_some, mj_r0, mj_r1, mj_q0, mj_q1, mj_b01, mj_q2, if_true, if_false, mj_it, mj_if, true_and, and_true, false_and, and_false, not_true_eq_false, not_false_eq_true, true_or, or_true, false_or, or_false]
theorem s_kend6 (hE : mj_EK E) (v1 v2 v3 v4 : Int32) {u6 : Value} (hu : u6 = .float 0 ∨ ∃ v, u6 = .int v) : mj_den mj_P E (d + 4) 54 8 [.ref 159, .int v1, .int v2, .int v3, .int v4, .int (nI 25), u6] [] (mj_hw 6 c hi hl) = some (some (.int (-1)), mj_hw 6 c hi hl) := by
  have e1 := s_slen6 (E := E) (d := d + 2) (w := 6) (c := c) (hi := hi) (hl := hl) hE
  have n1 : nI 24 < nI 25 := by decide
  rcases hu with rfl | ⟨v, rfl⟩
  · simp only [q54_8, q54_8_1, q54_8_2, q54_8_3, q54_8_4, q54_8_5, q54_8_6, q54_8_7, q54_17, q54_17_1, q54_17_2, q54_17_3, q54_17_4, q54_17_5, q54_17_6, q54_17_7, q54_29, q54_29_1, q54_29_2, q54_29_3, q54_29_4, q54_29_5, q54_29_6, q54_29_7, q54_41, q54_41_1, q54_44, q54_44_1, q54_118, q54_118_1, e1, n1, ↓reduceIte, Bool.false_eq_true, eq_self, mj_10, mj_01, mj_n10, mj_0n1, mj_1n1, mj_n11, mj_bi_some, mj_bv_some, mj_bj_some, mj_br_some, mj_r0, mj_r1, mj_q0, mj_q1, mj_b01, mj_q2, if_true, if_false, mj_it, mj_if, true_and, and_true, false_and, and_false, not_true_eq_false, not_false_eq_true, true_or, or_true, false_or, or_false]
  · simp only [q54_8, q54_8_1, q54_8_2, q54_8_3, q54_8_4, q54_8_5, q54_8_6, q54_8_7, q54_17, q54_17_1, q54_17_2, q54_17_3, q54_17_4, q54_17_5, q54_17_6, q54_17_7, q54_29, q54_29_1, q54_29_2, q54_29_3, q54_29_4, q54_29_5, q54_29_6, q54_29_7, q54_41, q54_41_1, q54_44, q54_44_1, q54_118, q54_118_1, e1, n1, ↓reduceIte, Bool.false_eq_true, eq_self, mj_10, mj_01, mj_n10, mj_0n1, mj_1n1, mj_n11, mj_bi_some, mj_bv_some, mj_bj_some, mj_br_some, mj_r0, mj_r1, mj_q0, mj_q1, mj_b01, mj_q2, if_true, if_false, mj_it, mj_if, true_and, and_true, false_and, and_false, not_true_eq_false, not_false_eq_true, true_or, or_true, false_or, or_false]
theorem s_kst {w : Nat} (hw : 3 ≤ w ∧ w ≤ 6) (hE : mj_EK E) {i : Nat} (hi' : i ≤ wx_l w) (v1 v2 v3 v4 : Int32) {u6 : Value} (hu : u6 = .float 0 ∨ ∃ v, u6 = .int v) : mj_den mj_P E (d + 4) 54 8 [.ref 159, .int v1, .int v2, .int v3, .int v4, .int (nI i), u6] [] (mj_hw w c hi hl) = mj_den mj_P E (d + 4) 54 46 [.ref 159, .int v1, .int v2, .int v3, .int v4, .int (nI i), u6] [.int (kV w i)] (mj_hw w c hi hl) := by
  rcases (show w = 3 ∨ w = 4 ∨ w = 5 ∨ w = 6 by omega) with rfl | rfl | rfl | rfl
  · exact s_kst3 hE hi' v1 v2 v3 v4 hu
  · exact s_kst4 hE hi' v1 v2 v3 v4 hu
  · exact s_kst5 hE hi' v1 v2 v3 v4 hu
  · exact s_kst6 hE hi' v1 v2 v3 v4 hu
theorem s_kend {w : Nat} (hw : 3 ≤ w ∧ w ≤ 6) (hE : mj_EK E) (v1 v2 v3 v4 : Int32) {u6 : Value} (hu : u6 = .float 0 ∨ ∃ v, u6 = .int v) : mj_den mj_P E (d + 4) 54 8 [.ref 159, .int v1, .int v2, .int v3, .int v4, .int (nI (wx_l w + 1)), u6] [] (mj_hw w c hi hl) = some (some (.int (-1)), mj_hw w c hi hl) := by
  rcases (show w = 3 ∨ w = 4 ∨ w = 5 ∨ w = 6 by omega) with rfl | rfl | rfl | rfl
  · exact s_kend3 hE v1 v2 v3 v4 hu
  · exact s_kend4 hE v1 v2 v3 v4 hu
  · exact s_kend5 hE v1 v2 v3 v4 hu
  · exact s_kend6 hE v1 v2 v3 v4 hu
/-- how far word j has been matched -/
theorem s_kword {w a b j : Nat} {Y : Nat → Int32} (hw : 3 ≤ w ∧ w ≤ 6) (hE : mj_EK E) (hab : a < b) (hb : b ≤ 400) (hY : ∀ q, a ≤ q → q < b → hi 173 q = Y q) (hj : j < kN w) {u6 : Value} (hu : u6 = .float 0 ∨ ∃ v, u6 = .int v) : (kE Y a b w j ∧ mj_den mj_P E (d + 4) 54 8 [.ref 159, .int (nI a), .int (nI b), .int (nI j), .int 0, .int (nI (kO w j)), u6] [] (mj_hw w c hi hl) = some (some (.int (nI j)), mj_hw w c hi hl)) ∨ (¬ kE Y a b w j ∧ ∃ v, mj_den mj_P E (d + 4) 54 8 [.ref 159, .int (nI a), .int (nI b), .int (nI j), .int 0, .int (nI (kO w j)), u6] [] (mj_hw w c hi hl) = mj_den mj_P E (d + 4) 54 8 [.ref 159, .int (nI a), .int (nI b), .int (nI (j + 1)), .int 0, .int (nI (kO w (j + 1))), .int v] [] (mj_hw w c hi hl)) := by
  obtain ⟨d1, d2, d3, d4, d5⟩ := (kd hw).2 j hj
  obtain ⟨l1, l2, _⟩ := kl hw
  have hbm : nI b - nI a = nI (b - a) := mj_nIsub (by omega)
  -- the state behind q letters of the word
  have key := lp_ex (fun q (s : Int32 × Value) => mj_den mj_P E (d + 4) 54 8 [.ref 159, .int (nI a), .int (nI b), .int (nI j), .int s.1, .int (nI (kO w j + q)), s.2] [] (mj_hw w c hi hl)) (fun q s => (s.2 = .float 0 ∨ ∃ v, s.2 = .int v) ∧ ((s.1 = nI q ∧ q ≤ b - a ∧ ∀ r, r < q → Y (a + r) = kV w (kO w j + r)) ∨ (s.1 = -1 ∧ ¬ (q ≤ b - a ∧ ∀ r, r < q → Y (a + r) = kV w (kO w j + r))))) (kZ w j) (fun q s hq hI => ?_) (0, u6) ⟨hu, Or.inl ⟨rfl, by omega, fun r hr => absurd hr (by omega)⟩⟩
  · obtain ⟨⟨v4, u⟩, ek, hu', hs⟩ := key
    simp only at hu' hs
    have ek' : mj_den mj_P E (d + 4) 54 8 [.ref 159, .int (nI a), .int (nI b), .int (nI j), .int 0, .int (nI (kO w j)), u6] [] (mj_hw w c hi hl) = mj_den mj_P E (d + 4) 54 8 [.ref 159, .int (nI a), .int (nI b), .int (nI j), .int v4, .int (nI (kO w j + kZ w j)), u] [] (mj_hw w c hi hl) := ek
    rw [ek', s_kst hw hE d2 _ _ _ _ hu', d3]
    have no : ¬ ¬ (32 : Int32) = 32 := fun z => z rfl
    by_cases hk : kE Y a b w j
    · left
      refine ⟨hk, ?_⟩
      rcases hs with ⟨s1, _, _⟩ | ⟨_, s2⟩
      · have e4 : ¬ ¬ v4 = nI b - nI a := fun z => z (by rw [s1, hbm, hk.1])
        rcases hu' with rfl | ⟨v, rfl⟩
        · rw [q54_46, if_neg no, if_neg e4]
        · rw [q54_46_1, if_neg no, if_neg e4]
      · exact absurd ⟨by rw [hk.1]; exact Nat.le_refl _, hk.2⟩ s2
    · right
      refine ⟨hk, 32, ?_⟩
      have e4 : ¬ v4 = nI b - nI a := fun z => by
        rw [hbm] at z
        rcases hs with ⟨s1, s2, s3⟩ | ⟨s1, _⟩
        · rw [s1, mj_nIeq (by omega) (by omega)] at z
          exact hk ⟨z.symm, s3⟩
        · rw [s1] at z
          have : (0 : Int32) ≤ nI (b - a) := by rw [mj_nI0 (by omega)]; trivial
          rw [← z] at this; exact absurd this (by decide)
      rw [d1]
      rcases hu' with rfl | ⟨v, rfl⟩
      · rw [q54_46, if_neg no, if_pos e4, q54_65, q54_112, mj_nIs, mj_nIs]
      · rw [q54_46_1, if_neg no, if_pos e4, q54_65, q54_112, mj_nIs, mj_nIs]
  · obtain ⟨v4, u⟩ := s
    obtain ⟨hu', hs⟩ := hI
    simp only at hu' hs
    have hch := d5 q hq
    have h46 : mj_den mj_P E (d + 4) 54 8 [.ref 159, .int (nI a), .int (nI b), .int (nI j), .int v4, .int (nI (kO w j + q)), u] [] (mj_hw w c hi hl) = mj_den mj_P E (d + 4) 54 74 [.ref 159, .int (nI a), .int (nI b), .int (nI j), .int v4, .int (nI (kO w j + q)), .int (kV w (kO w j + q))] [] (mj_hw w c hi hl) := by
      rw [s_kst hw hE (by omega) _ _ _ _ hu']
      rcases hu' with rfl | ⟨v, rfl⟩
      · rw [q54_46, if_pos hch]
      · rw [q54_46_1, if_pos hch]
    have hfin : ∀ v4' : Int32, mj_den mj_P E (d + 4) 54 74 [.ref 159, .int (nI a), .int (nI b), .int (nI j), .int v4, .int (nI (kO w j + q)), .int (kV w (kO w j + q))] [] (mj_hw w c hi hl) = mj_den mj_P E (d + 4) 54 112 [.ref 159, .int (nI a), .int (nI b), .int (nI j), .int v4', .int (nI (kO w j + q)), .int (kV w (kO w j + q))] [] (mj_hw w c hi hl) → mj_den mj_P E (d + 4) 54 8 [.ref 159, .int (nI a), .int (nI b), .int (nI j), .int v4, .int (nI (kO w j + q)), u] [] (mj_hw w c hi hl) = mj_den mj_P E (d + 4) 54 8 [.ref 159, .int (nI a), .int (nI b), .int (nI j), .int v4', .int (nI (kO w j + (q + 1))), .int (kV w (kO w j + q))] [] (mj_hw w c hi hl) := fun v4' h => by rw [h46, h, q54_112, mj_nIs]; rfl
    rcases hs with ⟨s1, s2, s3⟩ | ⟨s1, s2⟩
    · have hn1 : ¬ v4 = -1 := fun z => by
        rw [s1] at z
        have : (0 : Int32) ≤ nI q := by rw [mj_nI0 (by omega)]; trivial
        rw [z] at this; exact absurd this (by decide)
      by_cases hend : b ≤ a + q
      · have hle : nI b ≤ nI (a + q) := by rw [mj_nIle (by omega) (by omega)]; exact hend
        refine ⟨(-1, .int (kV w (kO w j + q))), hfin (-1) ?_, Or.inr ⟨_, rfl⟩, Or.inr ⟨rfl, fun z => absurd z.1 (by omega)⟩⟩
        rw [q54_74, if_neg hn1, s1, mj_nIadd, if_pos hle, q54_109, q54_110]
      · have hle : ¬ nI b ≤ nI (a + q) := by rw [mj_nIle (by omega) (by omega)]; exact hend
        have hin : (0 ≤ nI (a + q) ∧ (nI (a + q)).toNatClampNeg < 400) := ⟨by rw [mj_nI0 (by omega)]; trivial, by rw [mj_nIc (by omega)]; omega⟩
        have hc : (nI (a + q)).toNatClampNeg = a + q := mj_nIc (by omega)
        have hYq := hY (a + q) (by omega) (by omega)
        by_cases hm : Y (a + q) = kV w (kO w j + q)
        · refine ⟨(nI (q + 1), .int (kV w (kO w j + q))), hfin (nI (q + 1)) ?_, Or.inr ⟨_, rfl⟩, Or.inl ⟨rfl, by omega, fun r hr => ?_⟩⟩
          · rw [q54_74, if_neg hn1, s1, mj_nIadd, if_neg hle, if_pos hin, hc, hYq, if_neg (fun z => z hm), q54_110, mj_nIs]
          · by_cases hrq : r = q
            · rw [hrq]; exact hm
            · exact s3 r (by omega)
        · refine ⟨(-1, .int (kV w (kO w j + q))), hfin (-1) ?_, Or.inr ⟨_, rfl⟩, Or.inr ⟨rfl, fun z => hm (z.2 q (by omega))⟩⟩
          rw [q54_74, if_neg hn1, s1, mj_nIadd, if_neg hle, if_pos hin, hc, hYq, if_pos hm, q54_109, q54_110]
    · refine ⟨(-1, .int (kV w (kO w j + q))), hfin (-1) ?_, Or.inr ⟨_, rfl⟩, Or.inr ⟨rfl, fun z => s2 ⟨by omega, fun r hr => z.2 r (by omega)⟩⟩⟩
      rw [q54_74, if_pos s1, s1]
theorem s_kw {w a b : Nat} {Y : Nat → Int32} (hw : 3 ≤ w ∧ w ≤ 6) (hE : mj_EK E) (hab : a < b) (hb : b ≤ 400) (hY : ∀ q, a ≤ q → q < b → hi 173 q = Y q) : ∃ v : Int32, mj_dc mj_P E (d + 5) 54 [.ref 159, .int (nI a), .int (nI b)] (mj_hw w c hi hl) = some (some (.int v), mj_hw w c hi hl) ∧ ((∃ j, j < kN w ∧ v = nI j ∧ kE Y a b w j) ∨ (v = -1 ∧ ∀ j, j < kN w → ¬ kE Y a b w j)) := by
  obtain ⟨l1, l2, l3⟩ := kl hw
  have k0 := (kd hw).1
  rcases lp_fst (fun j => kE Y a b w j) (kN w) with hall | ⟨j, j1, j2, j3⟩
  · have key := lp_ex (fun j (u : Value) => mj_den mj_P E (d + 4) 54 8 [.ref 159, .int (nI a), .int (nI b), .int (nI j), .int 0, .int (nI (kO w j)), u] [] (mj_hw w c hi hl)) (fun _ u => u = .float 0 ∨ ∃ v, u = .int v) (kN w) (fun j u hj hu => by
      rcases s_kword (d := d) (c := c) (hl := hl) hw hE hab hb hY hj hu with ⟨h, _⟩ | ⟨_, v, h⟩
      · exact absurd h (hall j hj)
      · exact ⟨.int v, h, Or.inr ⟨v, rfl⟩⟩) (.float 0) (Or.inl rfl)
    obtain ⟨u, ek, hu⟩ := key
    have ek' : mj_den mj_P E (d + 4) 54 8 [.ref 159, .int (nI a), .int (nI b), .int 0, .int 0, .int (nI (kO w 0)), .float 0] [] (mj_hw w c hi hl) = mj_den mj_P E (d + 4) 54 8 [.ref 159, .int (nI a), .int (nI b), .int (nI (kN w)), .int 0, .int (nI (kO w (kN w))), u] [] (mj_hw w c hi hl) := ek
    rw [k0] at ek'
    have ek'' : mj_den mj_P E (d + 4) 54 8 [.ref 159, .int (nI a), .int (nI b), .int 0, .int 0, .int 0, .float 0] [] (mj_hw w c hi hl) = mj_den mj_P E (d + 4) 54 8 [.ref 159, .int (nI a), .int (nI b), .int (nI (kN w)), .int 0, .int (nI (kO w (kN w))), u] [] (mj_hw w c hi hl) := ek'
    exact ⟨-1, by rw [e54, q54_0, ek'', l3, s_kend hw hE _ _ _ _ hu], Or.inr ⟨rfl, hall⟩⟩
  · have key := lp_ex (fun j (u : Value) => mj_den mj_P E (d + 4) 54 8 [.ref 159, .int (nI a), .int (nI b), .int (nI j), .int 0, .int (nI (kO w j)), u] [] (mj_hw w c hi hl)) (fun _ u => u = .float 0 ∨ ∃ v, u = .int v) j (fun i u hi' hu => by
      rcases s_kword (d := d) (c := c) (hl := hl) hw hE hab hb hY (show i < kN w by omega) hu with ⟨h, _⟩ | ⟨_, v, h⟩
      · exact absurd h (j3 i hi')
      · exact ⟨.int v, h, Or.inr ⟨v, rfl⟩⟩) (.float 0) (Or.inl rfl)
    obtain ⟨u, ek, hu⟩ := key
    have ek' : mj_den mj_P E (d + 4) 54 8 [.ref 159, .int (nI a), .int (nI b), .int 0, .int 0, .int (nI (kO w 0)), .float 0] [] (mj_hw w c hi hl) = mj_den mj_P E (d + 4) 54 8 [.ref 159, .int (nI a), .int (nI b), .int (nI j), .int 0, .int (nI (kO w j)), u] [] (mj_hw w c hi hl) := ek
    rw [k0] at ek'
    have ek'' : mj_den mj_P E (d + 4) 54 8 [.ref 159, .int (nI a), .int (nI b), .int 0, .int 0, .int 0, .float 0] [] (mj_hw w c hi hl) = mj_den mj_P E (d + 4) 54 8 [.ref 159, .int (nI a), .int (nI b), .int (nI j), .int 0, .int (nI (kO w j)), u] [] (mj_hw w c hi hl) := ek'
    rcases s_kword (d := d) (c := c) (hl := hl) hw hE hab hb hY j1 hu with ⟨_, h⟩ | ⟨h, _⟩
    · exact ⟨nI j, by rw [e54, q54_0, ek'', h], Or.inl ⟨j, j1, rfl, j2⟩⟩
    · exact absurd j2 h
end MJZ2
