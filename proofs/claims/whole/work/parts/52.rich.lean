/-! rich -/
def wr_w (pu : Nat) (p : Nat → Bool) (wo : Nat → Nat) : Nat → Nat
  | 0 => pu
  | l + 1 => if p l = true then wr_w pu p wo l + wo l else wr_w pu p wo l
theorem wr_w_s (pu : Nat) (p : Nat → Bool) (wo : Nat → Nat) (l : Nat) : wr_w pu p wo (l + 1) = if p l = true then wr_w pu p wo l + wo l else wr_w pu p wo l := rfl
theorem wr_w_bd {pu : Nat} {p : Nat → Bool} {wo : Nat → Nat} : ∀ l, (∀ k, k < l → wo k ≤ 999) → wr_w pu p wo l ≤ pu + 999 * l := by
  intro l
  induction l with
  | zero => intro _; exact Nat.le_refl _
  | succ l ih =>
    intro h
    have h1 := ih (fun k hk => h k (by omega))
    have h2 := h l (by omega)
    rw [wr_w_s]; split <;> omega
def wr_best (W : Nat → Nat) : Nat → Nat
  | 0 => 0
  | d + 1 => if W (wr_best W d) < W d then d else wr_best W d
theorem wr_best_s (W : Nat → Nat) (d : Nat) : wr_best W (d + 1) = if W (wr_best W d) < W d then d else wr_best W d := rfl
theorem wr_best_lt (W : Nat → Nat) : ∀ n, wr_best W n ≤ n - 1 := by
  intro n
  induction n with
  | zero => exact Nat.le_refl _
  | succ n ih => rw [wr_best_s]; split <;> omega
def wr_mid (B : Nat → Nat) (m : Nat) : Nat → Nat
  | 0 => 0
  | d + 1 => if B d = m then d else wr_mid B m d
theorem wr_mid_s (B : Nat → Nat) (m d : Nat) : wr_mid B m (d + 1) = if B d = m then d else wr_mid B m d := rfl
theorem wr_mid_lt (B : Nat → Nat) (m : Nat) : ∀ n, wr_mid B m n ≤ n - 1 := by
  intro n
  induction n with
  | zero => exact Nat.le_refl _
  | succ n ih => rw [wr_mid_s]; split <;> omega
theorem wr_mid_in {B : Nat → Nat} {m : Nat} : ∀ n, (∃ d, d < n ∧ B d = m) → wr_mid B m n < n ∧ B (wr_mid B m n) = m := by
  intro n
  induction n with
  | zero => rintro ⟨d, h, _⟩; omega
  | succ n ih =>
    rintro ⟨d, h1, h2⟩
    rw [wr_mid_s]
    by_cases h : B n = m
    · rw [if_pos h]; exact ⟨by omega, h⟩
    · rw [if_neg h]
      have hd : d ≠ n := fun z => h (z ▸ h2)
      obtain ⟨r1, r2⟩ := ih ⟨d, by omega, h2⟩
      exact ⟨by omega, r2⟩
def wr_bel (v : Nat → Int32) (n d : Nat) : Nat := iv_cnt (fun o => decide (v o < v d ∨ (v o = v d ∧ o < d))) n
theorem wr_bel_eq {v : Nat → Int32} {n d : Nat} (hd : d < n) : wr_bel v n d = ws_cle v ((v d).toInt - 1) n + iv_cnt (fun o => decide (v o = v d)) d := by
  unfold wr_bel ws_cle
  rw [iv_cnt_add (p := fun o => decide ((v o).toInt ≤ (v d).toInt - 1)) (q := fun o => decide (v o = v d ∧ o < d)) n (fun i hi => ?_)]
  · rw [iv_cnt_cut (q := fun o => decide (v o = v d ∧ o < d)) (p := fun o => decide (v o = v d)) (k := d) n (by omega) (fun i _ => by simp [Bool.decide_and])]
  · by_cases h1 : v i < v d
    · have h2 := Int32.lt_iff_toInt_lt.mp h1
      have h3 : ¬ v i = v d := fun z => by rw [z] at h2; omega
      exact Or.inl ⟨decide_eq_true (by omega), decide_eq_false (fun z => h3 z.1), decide_eq_true (Or.inl h1)⟩
    · have h2 : ¬ (v i).toInt < (v d).toInt := fun z => h1 (Int32.lt_iff_toInt_lt.mpr z)
      by_cases h3 : v i = v d ∧ i < d
      · exact Or.inr (Or.inl ⟨decide_eq_false (fun z => h2 (by omega)), decide_eq_true h3, decide_eq_true (Or.inr h3)⟩)
      · exact Or.inr (Or.inr ⟨decide_eq_false (fun z => h2 (by omega)), decide_eq_false h3, decide_eq_false (fun z => z.elim h1 h3)⟩)
theorem ws_cle_eq (v : Nat → Int32) (x : Int32) (n : Nat) : ws_cle v x.toInt n = ws_cle v (x.toInt - 1) n + iv_cnt (fun o => decide (v o = x)) n := by
  unfold ws_cle
  refine iv_cnt_add n (fun i hi => ?_)
  by_cases h1 : v i = x
  · subst h1
    exact Or.inr (Or.inl ⟨decide_eq_false (by omega), decide_eq_true rfl, decide_eq_true (by omega)⟩)
  · have h2 : (v i).toInt ≠ x.toInt := fun z => h1 (Int32.toInt_inj.mp z)
    by_cases h3 : (v i).toInt ≤ x.toInt - 1
    · exact Or.inl ⟨decide_eq_true h3, decide_eq_false h1, decide_eq_true (by omega)⟩
    · exact Or.inr (Or.inr ⟨decide_eq_false h3, decide_eq_false h1, decide_eq_false (by omega)⟩)
theorem wr_med {S v : Nat → Int32} {n m : Nat} (hS : ws_S S v n) (hm : m < n) : v (wr_mid (wr_bel v n) m n) = S m ∧ wr_mid (wr_bel v n) m n < n := by
  have hv : ∀ d, d < n → wr_bel v n d = m → v d = S m := by
    intro d hd hb
    rw [wr_bel_eq hd] at hb
    have h1 := (hS m hm (v d).toInt)
    have h2 := (hS m hm ((v d).toInt - 1))
    have h3 : iv_cnt (fun o => decide (v o = v d)) d < iv_cnt (fun o => decide (v o = v d)) n := by
      have h4 := iv_cnt_le (fun o => decide (v o = v d)) (d + 1) n (by omega)
      rw [iv_cnt_s, if_pos (decide_eq_true rfl)] at h4
      omega
    rw [ws_cle_eq] at h1
    have h5 : (S m).toInt ≤ (v d).toInt := h1.mpr (by omega)
    have h6 : ¬ (S m).toInt ≤ (v d).toInt - 1 := fun z => by have := h2.mp z; omega
    exact Int32.toInt_inj.mp (by omega)
  have hex : ∃ d, d < n ∧ wr_bel v n d = m := by
    have h1 := (hS m hm (S m).toInt).mp (Int.le_refl _)
    have h2 : ¬ m < ws_cle v ((S m).toInt - 1) n := fun z => by have := (hS m hm _).mpr z; omega
    rw [ws_cle_eq] at h1
    obtain ⟨i, i1, i2, i3⟩ := iv_cnt_kth (p := fun o => decide (v o = S m)) (k := m - ws_cle v ((S m).toInt - 1) n) (n := n) (by omega)
    have i2 := of_decide_eq_true i2
    refine ⟨i, i1, ?_⟩
    rw [wr_bel_eq i1, i2]; omega
  obtain ⟨r1, r2⟩ := wr_mid_in n hex
  exact ⟨hv _ r1 r2, r1⟩
section MJ52
variable {E : mj_E} {d w c : Nat} {hi : mj_HI} {hl : Nat → Nat → Int64}
theorem s_wealth {n l k pu : Nat} {p : Nat → Bool} {wo : Nat → Nat} (hn : n ≤ 10) (hl12 : l ≤ 12) (hk : k < n) (h0 : hi 2 0 = nI n) (h1 : hi 2 1 = nI l) (hp : hi 5 k = nI pu) (hq : ∀ j, j < l → (hi 12 j = nI k ↔ p j = true)) (hw : ∀ j, j < l → hi 11 j = nI (wo j)) : mj_dc mj_P E (d + 2) 81 [.ref 2, .int (nI k)] (mj_hw w c hi hl) = some (some (.int (nI (wr_w pu p wo l))), mj_hw w c hi hl) := by
  have hkk : (0 : Int32) ≤ nI k ∧ nI k < nI n := ⟨by rw [mj_nI0 (by omega)]; trivial, by rw [mj_nIlt (by omega) (by omega)]; exact hk⟩
  rw [e81, q81_0, s_dlX hn h0, mj_bi_some, q81_5]
  simp (disch := omega) only [↓reduceIte, Bool.false_eq_true, eq_self, mj_10, mj_01, mj_n10, mj_0n1, mj_1n1, mj_n11, mj_bi_some, mj_bv_some, mj_bj_some, mj_br_some, mj_r0, mj_r1, mj_q0, mj_q1, mj_b01, mj_q2, if_true, if_false, mj_it, mj_if, true_and, and_true, false_and, and_false, not_true_eq_false, not_false_eq_true, true_or, or_true, false_or, or_false, mj_nIle, mj_nIlt, mj_nIeq, mj_nI0, mj_nIc, mj_nIadd, mj_nIs, mj_ez, mj_ze, mj_eo, mj_ltz, mj_lez, mj_zlt, mj_olt, mj_lto, mj_leo, mj_ole, mj_nIn, mj_nnI, nl_2, nl_3, nl_4, nl_5, nl_6, nl_7, nl_8, nl_9, nl_10, nl_11, nl_12, nl_13, nl_14, nl_15, nl_16, nl_17, nl_18, nl_19, nl_20, nl_21, nl_22, nl_23, nl_24, nl_25, nl_26, nl_27, nl_28, nl_29, nl_30, nl_32, nl_33, nl_34, nl_35, nl_36, nl_37, nl_38, nl_39, nl_40, nl_41, nl_42, nl_43, nl_44, nl_45, nl_46, nl_47, nl_48, nl_49, nl_50, nl_51, nl_52, nl_53, nl_54, nl_55, nl_56, nl_57, nl_58, nl_59, nl_60, nl_61, nl_62, nl_64, nl_65, nl_66, nl_67, nl_68, nl_69, nl_92, nl_97, nl_99, nl_100, nl_122, nl_127, nl_128, nl_131, nl_132, nl_150, nl_200, nl_255, nl_256, nl_300, nl_342, nl_380, nl_381, nl_400, nl_401, nl_420, nl_500, nl_600, nl_800, nl_999, nl_1000, nl_1023, nl_1024, nl_1200, nl_2048, nl_2100, nl_4096, nl_9999, nl_10000, nl_10240, nl_999999, nl_1000000, if_pos, if_neg, hkk, q81_18, hp]
  refine (lp_up (fun j => mj_den mj_P E (d + 1) 81 21 [.ref 2, .int (nI k), .int (nI (wr_w pu p wo j)), .int (nI j)] [] (mj_hw w c hi hl)) l (fun j hj => ?_)).trans ?_
  · show mj_den mj_P E (d + 1) 81 21 [.ref 2, .int (nI k), .int (nI (wr_w pu p wo j)), .int (nI j)] [] (mj_hw w c hi hl) = mj_den mj_P E (d + 1) 81 21 [.ref 2, .int (nI k), .int (nI (wr_w pu p wo (j + 1))), .int (nI (j + 1))] [] (mj_hw w c hi hl)
    have hwj := hw j hj
    rw [q81_21, h1, wr_w_s]
    by_cases hb : p j = true
    · have h2 := (hq j hj).mpr hb
      simp (disch := omega) only [↓reduceIte, Bool.false_eq_true, eq_self, mj_10, mj_01, mj_n10, mj_0n1, mj_1n1, mj_n11, mj_bi_some, mj_bv_some, mj_bj_some, mj_br_some, mj_r0, mj_r1, mj_q0, mj_q1, mj_b01, mj_q2, if_true, if_false, mj_it, mj_if, true_and, and_true, false_and, and_false, not_true_eq_false, not_false_eq_true, true_or, or_true, false_or, or_false, mj_nIle, mj_nIlt, mj_nIeq, mj_nI0, mj_nIc, mj_nIadd, mj_nIs, mj_ez, mj_ze, mj_eo, mj_ltz, mj_lez, mj_zlt, mj_olt, mj_lto, mj_leo, mj_ole, mj_nIn, mj_nnI, nl_2, nl_3, nl_4, nl_5, nl_6, nl_7, nl_8, nl_9, nl_10, nl_11, nl_12, nl_13, nl_14, nl_15, nl_16, nl_17, nl_18, nl_19, nl_20, nl_21, nl_22, nl_23, nl_24, nl_25, nl_26, nl_27, nl_28, nl_29, nl_30, nl_32, nl_33, nl_34, nl_35, nl_36, nl_37, nl_38, nl_39, nl_40, nl_41, nl_42, nl_43, nl_44, nl_45, nl_46, nl_47, nl_48, nl_49, nl_50, nl_51, nl_52, nl_53, nl_54, nl_55, nl_56, nl_57, nl_58, nl_59, nl_60, nl_61, nl_62, nl_64, nl_65, nl_66, nl_67, nl_68, nl_69, nl_92, nl_97, nl_99, nl_100, nl_122, nl_127, nl_128, nl_131, nl_132, nl_150, nl_200, nl_255, nl_256, nl_300, nl_342, nl_380, nl_381, nl_400, nl_401, nl_420, nl_500, nl_600, nl_800, nl_999, nl_1000, nl_1023, nl_1024, nl_1200, nl_2048, nl_2100, nl_4096, nl_9999, nl_10000, nl_10240, nl_999999, nl_1000000, if_pos, if_neg, hb, h2, q81_54, hwj]
    · have h2 : ¬ hi 12 j = nI k := fun z => hb ((hq j hj).mp z)
      simp (disch := omega) only [↓reduceIte, Bool.false_eq_true, eq_self, mj_10, mj_01, mj_n10, mj_0n1, mj_1n1, mj_n11, mj_bi_some, mj_bv_some, mj_bj_some, mj_br_some, mj_r0, mj_r1, mj_q0, mj_q1, mj_b01, mj_q2, if_true, if_false, mj_it, mj_if, true_and, and_true, false_and, and_false, not_true_eq_false, not_false_eq_true, true_or, or_true, false_or, or_false, mj_nIle, mj_nIlt, mj_nIeq, mj_nI0, mj_nIc, mj_nIadd, mj_nIs, mj_ez, mj_ze, mj_eo, mj_ltz, mj_lez, mj_zlt, mj_olt, mj_lto, mj_leo, mj_ole, mj_nIn, mj_nnI, nl_2, nl_3, nl_4, nl_5, nl_6, nl_7, nl_8, nl_9, nl_10, nl_11, nl_12, nl_13, nl_14, nl_15, nl_16, nl_17, nl_18, nl_19, nl_20, nl_21, nl_22, nl_23, nl_24, nl_25, nl_26, nl_27, nl_28, nl_29, nl_30, nl_32, nl_33, nl_34, nl_35, nl_36, nl_37, nl_38, nl_39, nl_40, nl_41, nl_42, nl_43, nl_44, nl_45, nl_46, nl_47, nl_48, nl_49, nl_50, nl_51, nl_52, nl_53, nl_54, nl_55, nl_56, nl_57, nl_58, nl_59, nl_60, nl_61, nl_62, nl_64, nl_65, nl_66, nl_67, nl_68, nl_69, nl_92, nl_97, nl_99, nl_100, nl_122, nl_127, nl_128, nl_131, nl_132, nl_150, nl_200, nl_255, nl_256, nl_300, nl_342, nl_380, nl_381, nl_400, nl_401, nl_420, nl_500, nl_600, nl_800, nl_999, nl_1000, nl_1023, nl_1024, nl_1200, nl_2048, nl_2100, nl_4096, nl_9999, nl_10000, nl_10240, nl_999999, nl_1000000, if_pos, if_neg, hb, h2, q81_54]
  · show mj_den mj_P E (d + 1) 81 21 _ _ _ = _
    rw [q81_21, h1, if_pos (Int32.le_refl _), q81_60]
theorem s_richM {l k pu : Nat} {p : Nat → Bool} {wo : Nat → Nat} (hl12 : l ≤ 12) (hk : k < 10) (h1 : hi 205 7 = nI l) (hp : hi 206 (15 + k) = nI pu) (hq : ∀ j, j < l → (hi 206 (45 + j) - 1 = nI k ↔ p j = true)) (hw : ∀ j, j < l → hi 212 j = nI (wo j)) : mj_dc mj_P E (d + 2) 282 [.ref 205, .int (nI k)] (mj_hw w c hi hl) = some (some (.int (nI (wr_w pu p wo l))), mj_hw w c hi hl) := by
  rw [e282, q282_0]
  simp (disch := omega) only [↓reduceIte, Bool.false_eq_true, eq_self, mj_10, mj_01, mj_n10, mj_0n1, mj_1n1, mj_n11, mj_bi_some, mj_bv_some, mj_bj_some, mj_br_some, mj_r0, mj_r1, mj_q0, mj_q1, mj_b01, mj_q2, if_true, if_false, mj_it, mj_if, true_and, and_true, false_and, and_false, not_true_eq_false, not_false_eq_true, true_or, or_true, false_or, or_false, mj_nIle, mj_nIlt, mj_nIeq, mj_nI0, mj_nIc, mj_nIadd, mj_nIs, mj_ez, mj_ze, mj_eo, mj_ltz, mj_lez, mj_zlt, mj_olt, mj_lto, mj_leo, mj_ole, mj_nIn, mj_nnI, nl_2, nl_3, nl_4, nl_5, nl_6, nl_7, nl_8, nl_9, nl_10, nl_11, nl_12, nl_13, nl_14, nl_15, nl_16, nl_17, nl_18, nl_19, nl_20, nl_21, nl_22, nl_23, nl_24, nl_25, nl_26, nl_27, nl_28, nl_29, nl_30, nl_32, nl_33, nl_34, nl_35, nl_36, nl_37, nl_38, nl_39, nl_40, nl_41, nl_42, nl_43, nl_44, nl_45, nl_46, nl_47, nl_48, nl_49, nl_50, nl_51, nl_52, nl_53, nl_54, nl_55, nl_56, nl_57, nl_58, nl_59, nl_60, nl_61, nl_62, nl_64, nl_65, nl_66, nl_67, nl_68, nl_69, nl_92, nl_97, nl_99, nl_100, nl_122, nl_127, nl_128, nl_131, nl_132, nl_150, nl_200, nl_255, nl_256, nl_300, nl_342, nl_380, nl_381, nl_400, nl_401, nl_420, nl_500, nl_600, nl_800, nl_999, nl_1000, nl_1023, nl_1024, nl_1200, nl_2048, nl_2100, nl_4096, nl_9999, nl_10000, nl_10240, nl_999999, nl_1000000, if_pos, if_neg, hp]
  refine (lp_up (fun j => mj_den mj_P E (d + 1) 282 12 [.ref 205, .int (nI k), .int (nI (wr_w pu p wo j)), .int (nI j)] [] (mj_hw w c hi hl)) l (fun j hj => ?_)).trans ?_
  · show mj_den mj_P E (d + 1) 282 12 [.ref 205, .int (nI k), .int (nI (wr_w pu p wo j)), .int (nI j)] [] (mj_hw w c hi hl) = mj_den mj_P E (d + 1) 282 12 [.ref 205, .int (nI k), .int (nI (wr_w pu p wo (j + 1))), .int (nI (j + 1))] [] (mj_hw w c hi hl)
    have hwj := hw j hj
    rw [q282_12, h1, wr_w_s]
    by_cases hb : p j = true
    · have h2 := (hq j hj).mpr hb
      simp (disch := omega) only [↓reduceIte, Bool.false_eq_true, eq_self, mj_10, mj_01, mj_n10, mj_0n1, mj_1n1, mj_n11, mj_bi_some, mj_bv_some, mj_bj_some, mj_br_some, mj_r0, mj_r1, mj_q0, mj_q1, mj_b01, mj_q2, if_true, if_false, mj_it, mj_if, true_and, and_true, false_and, and_false, not_true_eq_false, not_false_eq_true, true_or, or_true, false_or, or_false, mj_nIle, mj_nIlt, mj_nIeq, mj_nI0, mj_nIc, mj_nIadd, mj_nIs, mj_ez, mj_ze, mj_eo, mj_ltz, mj_lez, mj_zlt, mj_olt, mj_lto, mj_leo, mj_ole, mj_nIn, mj_nnI, nl_2, nl_3, nl_4, nl_5, nl_6, nl_7, nl_8, nl_9, nl_10, nl_11, nl_12, nl_13, nl_14, nl_15, nl_16, nl_17, nl_18, nl_19, nl_20, nl_21, nl_22, nl_23, nl_24, nl_25, nl_26, nl_27, nl_28, nl_29, nl_30, nl_32, nl_33, nl_34, nl_35, nl_36, nl_37, nl_38, nl_39, nl_40, nl_41, nl_42, nl_43, nl_44, nl_45, nl_46, nl_47, nl_48, nl_49, nl_50, nl_51, nl_52, nl_53, nl_54, nl_55, nl_56, nl_57, nl_58, nl_59, nl_60, nl_61, nl_62, nl_64, nl_65, nl_66, nl_67, nl_68, nl_69, nl_92, nl_97, nl_99, nl_100, nl_122, nl_127, nl_128, nl_131, nl_132, nl_150, nl_200, nl_255, nl_256, nl_300, nl_342, nl_380, nl_381, nl_400, nl_401, nl_420, nl_500, nl_600, nl_800, nl_999, nl_1000, nl_1023, nl_1024, nl_1200, nl_2048, nl_2100, nl_4096, nl_9999, nl_10000, nl_10240, nl_999999, nl_1000000, if_pos, if_neg, hb, s_soldM, h2, q282_25, q282_38, hwj]
    · have h2 : ¬ hi 206 (45 + j) - 1 = nI k := fun z => hb ((hq j hj).mp z)
      simp (disch := omega) only [↓reduceIte, Bool.false_eq_true, eq_self, mj_10, mj_01, mj_n10, mj_0n1, mj_1n1, mj_n11, mj_bi_some, mj_bv_some, mj_bj_some, mj_br_some, mj_r0, mj_r1, mj_q0, mj_q1, mj_b01, mj_q2, if_true, if_false, mj_it, mj_if, true_and, and_true, false_and, and_false, not_true_eq_false, not_false_eq_true, true_or, or_true, false_or, or_false, mj_nIle, mj_nIlt, mj_nIeq, mj_nI0, mj_nIc, mj_nIadd, mj_nIs, mj_ez, mj_ze, mj_eo, mj_ltz, mj_lez, mj_zlt, mj_olt, mj_lto, mj_leo, mj_ole, mj_nIn, mj_nnI, nl_2, nl_3, nl_4, nl_5, nl_6, nl_7, nl_8, nl_9, nl_10, nl_11, nl_12, nl_13, nl_14, nl_15, nl_16, nl_17, nl_18, nl_19, nl_20, nl_21, nl_22, nl_23, nl_24, nl_25, nl_26, nl_27, nl_28, nl_29, nl_30, nl_32, nl_33, nl_34, nl_35, nl_36, nl_37, nl_38, nl_39, nl_40, nl_41, nl_42, nl_43, nl_44, nl_45, nl_46, nl_47, nl_48, nl_49, nl_50, nl_51, nl_52, nl_53, nl_54, nl_55, nl_56, nl_57, nl_58, nl_59, nl_60, nl_61, nl_62, nl_64, nl_65, nl_66, nl_67, nl_68, nl_69, nl_92, nl_97, nl_99, nl_100, nl_122, nl_127, nl_128, nl_131, nl_132, nl_150, nl_200, nl_255, nl_256, nl_300, nl_342, nl_380, nl_381, nl_400, nl_401, nl_420, nl_500, nl_600, nl_800, nl_999, nl_1000, nl_1023, nl_1024, nl_1200, nl_2048, nl_2100, nl_4096, nl_9999, nl_10000, nl_10240, nl_999999, nl_1000000, if_pos, if_neg, hb, s_soldM, h2, q282_25, q282_38]
  · show mj_den mj_P E (d + 1) 282 12 _ _ _ = _
    rw [q282_12, h1, if_pos (Int32.le_refl _), q282_44]
theorem s_belM {n k : Nat} {v : Nat → Int32} (hn : n ≤ 10) (hk : k < 10) (h0 : hi 205 6 = nI n) (hv : ∀ d, d < 10 → hi 206 (5 + d) = v d) : mj_dc mj_P E (d + 1) 283 [.ref 205, .int (nI k)] (mj_hw w c hi hl) = some (some (.int (nI (wr_bel v n k))), mj_hw w c hi hl) := by
  rw [e283, q283_0]
  unfold wr_bel
  refine (lp_up (fun j => mj_den mj_P E d 283 4 [.ref 205, .int (nI k), .int (nI (iv_cnt (fun o => decide (v o < v k ∨ (v o = v k ∧ o < k))) j)), .int (nI j)] [] (mj_hw w c hi hl)) n (fun j hj => ?_)).trans ?_
  · show mj_den mj_P E d 283 4 [.ref 205, .int (nI k), .int (nI (iv_cnt (fun o => decide (v o < v k ∨ (v o = v k ∧ o < k))) j)), .int (nI j)] [] (mj_hw w c hi hl) = mj_den mj_P E d 283 4 [.ref 205, .int (nI k), .int (nI (iv_cnt (fun o => decide (v o < v k ∨ (v o = v k ∧ o < k))) (j + 1))), .int (nI (j + 1))] [] (mj_hw w c hi hl)
    have v1 := hv j (by omega)
    have v2 := hv k hk
    rw [q283_4, h0, iv_cnt_s]
    by_cases h1 : v j < v k
    · rw [if_pos (decide_eq_true (Or.inl h1))]
      simp (disch := omega) only [↓reduceIte, Bool.false_eq_true, eq_self, mj_10, mj_01, mj_n10, mj_0n1, mj_1n1, mj_n11, mj_bi_some, mj_bv_some, mj_bj_some, mj_br_some, mj_r0, mj_r1, mj_q0, mj_q1, mj_b01, mj_q2, if_true, if_false, mj_it, mj_if, true_and, and_true, false_and, and_false, not_true_eq_false, not_false_eq_true, true_or, or_true, false_or, or_false, mj_nIle, mj_nIlt, mj_nIeq, mj_nI0, mj_nIc, mj_nIadd, mj_nIs, mj_ez, mj_ze, mj_eo, mj_ltz, mj_lez, mj_zlt, mj_olt, mj_lto, mj_leo, mj_ole, mj_nIn, mj_nnI, nl_2, nl_3, nl_4, nl_5, nl_6, nl_7, nl_8, nl_9, nl_10, nl_11, nl_12, nl_13, nl_14, nl_15, nl_16, nl_17, nl_18, nl_19, nl_20, nl_21, nl_22, nl_23, nl_24, nl_25, nl_26, nl_27, nl_28, nl_29, nl_30, nl_32, nl_33, nl_34, nl_35, nl_36, nl_37, nl_38, nl_39, nl_40, nl_41, nl_42, nl_43, nl_44, nl_45, nl_46, nl_47, nl_48, nl_49, nl_50, nl_51, nl_52, nl_53, nl_54, nl_55, nl_56, nl_57, nl_58, nl_59, nl_60, nl_61, nl_62, nl_64, nl_65, nl_66, nl_67, nl_68, nl_69, nl_92, nl_97, nl_99, nl_100, nl_122, nl_127, nl_128, nl_131, nl_132, nl_150, nl_200, nl_255, nl_256, nl_300, nl_342, nl_380, nl_381, nl_400, nl_401, nl_420, nl_500, nl_600, nl_800, nl_999, nl_1000, nl_1023, nl_1024, nl_1200, nl_2048, nl_2100, nl_4096, nl_9999, nl_10000, nl_10240, nl_999999, nl_1000000, if_pos, if_neg, v1, v2, h1, q283_55, q283_59]
    · by_cases h2 : v j = v k
      · have h1' : ¬ v k < v k := Int32.lt_irrefl
        by_cases h3 : j < k
        · rw [if_pos (decide_eq_true (Or.inr ⟨h2, h3⟩))]
          simp (disch := omega) only [↓reduceIte, Bool.false_eq_true, eq_self, mj_10, mj_01, mj_n10, mj_0n1, mj_1n1, mj_n11, mj_bi_some, mj_bv_some, mj_bj_some, mj_br_some, mj_r0, mj_r1, mj_q0, mj_q1, mj_b01, mj_q2, if_true, if_false, mj_it, mj_if, true_and, and_true, false_and, and_false, not_true_eq_false, not_false_eq_true, true_or, or_true, false_or, or_false, mj_nIle, mj_nIlt, mj_nIeq, mj_nI0, mj_nIc, mj_nIadd, mj_nIs, mj_ez, mj_ze, mj_eo, mj_ltz, mj_lez, mj_zlt, mj_olt, mj_lto, mj_leo, mj_ole, mj_nIn, mj_nnI, nl_2, nl_3, nl_4, nl_5, nl_6, nl_7, nl_8, nl_9, nl_10, nl_11, nl_12, nl_13, nl_14, nl_15, nl_16, nl_17, nl_18, nl_19, nl_20, nl_21, nl_22, nl_23, nl_24, nl_25, nl_26, nl_27, nl_28, nl_29, nl_30, nl_32, nl_33, nl_34, nl_35, nl_36, nl_37, nl_38, nl_39, nl_40, nl_41, nl_42, nl_43, nl_44, nl_45, nl_46, nl_47, nl_48, nl_49, nl_50, nl_51, nl_52, nl_53, nl_54, nl_55, nl_56, nl_57, nl_58, nl_59, nl_60, nl_61, nl_62, nl_64, nl_65, nl_66, nl_67, nl_68, nl_69, nl_92, nl_97, nl_99, nl_100, nl_122, nl_127, nl_128, nl_131, nl_132, nl_150, nl_200, nl_255, nl_256, nl_300, nl_342, nl_380, nl_381, nl_400, nl_401, nl_420, nl_500, nl_600, nl_800, nl_999, nl_1000, nl_1023, nl_1024, nl_1200, nl_2048, nl_2100, nl_4096, nl_9999, nl_10000, nl_10240, nl_999999, nl_1000000, if_pos, if_neg, v1, v2, h2, h1', q283_55, q283_59]
        · have hneg : ¬ (decide (v j < v k ∨ (v j = v k ∧ j < k)) = true) := fun z => (of_decide_eq_true z).elim h1 (fun y => h3 y.2)
          rw [if_neg hneg]
          simp (disch := omega) only [↓reduceIte, Bool.false_eq_true, eq_self, mj_10, mj_01, mj_n10, mj_0n1, mj_1n1, mj_n11, mj_bi_some, mj_bv_some, mj_bj_some, mj_br_some, mj_r0, mj_r1, mj_q0, mj_q1, mj_b01, mj_q2, if_true, if_false, mj_it, mj_if, true_and, and_true, false_and, and_false, not_true_eq_false, not_false_eq_true, true_or, or_true, false_or, or_false, mj_nIle, mj_nIlt, mj_nIeq, mj_nI0, mj_nIc, mj_nIadd, mj_nIs, mj_ez, mj_ze, mj_eo, mj_ltz, mj_lez, mj_zlt, mj_olt, mj_lto, mj_leo, mj_ole, mj_nIn, mj_nnI, nl_2, nl_3, nl_4, nl_5, nl_6, nl_7, nl_8, nl_9, nl_10, nl_11, nl_12, nl_13, nl_14, nl_15, nl_16, nl_17, nl_18, nl_19, nl_20, nl_21, nl_22, nl_23, nl_24, nl_25, nl_26, nl_27, nl_28, nl_29, nl_30, nl_32, nl_33, nl_34, nl_35, nl_36, nl_37, nl_38, nl_39, nl_40, nl_41, nl_42, nl_43, nl_44, nl_45, nl_46, nl_47, nl_48, nl_49, nl_50, nl_51, nl_52, nl_53, nl_54, nl_55, nl_56, nl_57, nl_58, nl_59, nl_60, nl_61, nl_62, nl_64, nl_65, nl_66, nl_67, nl_68, nl_69, nl_92, nl_97, nl_99, nl_100, nl_122, nl_127, nl_128, nl_131, nl_132, nl_150, nl_200, nl_255, nl_256, nl_300, nl_342, nl_380, nl_381, nl_400, nl_401, nl_420, nl_500, nl_600, nl_800, nl_999, nl_1000, nl_1023, nl_1024, nl_1200, nl_2048, nl_2100, nl_4096, nl_9999, nl_10000, nl_10240, nl_999999, nl_1000000, if_pos, if_neg, v1, v2, h2, h1', q283_55, q283_59, Nat.add_zero]
      · have hneg : ¬ (decide (v j < v k ∨ (v j = v k ∧ j < k)) = true) := fun z => (of_decide_eq_true z).elim h1 (fun y => h2 y.1)
        rw [if_neg hneg]
        simp (disch := omega) only [↓reduceIte, Bool.false_eq_true, eq_self, mj_10, mj_01, mj_n10, mj_0n1, mj_1n1, mj_n11, mj_bi_some, mj_bv_some, mj_bj_some, mj_br_some, mj_r0, mj_r1, mj_q0, mj_q1, mj_b01, mj_q2, if_true, if_false, mj_it, mj_if, true_and, and_true, false_and, and_false, not_true_eq_false, not_false_eq_true, true_or, or_true, false_or, or_false, mj_nIle, mj_nIlt, mj_nIeq, mj_nI0, mj_nIc, mj_nIadd, mj_nIs, mj_ez, mj_ze, mj_eo, mj_ltz, mj_lez, mj_zlt, mj_olt, mj_lto, mj_leo, mj_ole, mj_nIn, mj_nnI, nl_2, nl_3, nl_4, nl_5, nl_6, nl_7, nl_8, nl_9, nl_10, nl_11, nl_12, nl_13, nl_14, nl_15, nl_16, nl_17, nl_18, nl_19, nl_20, nl_21, nl_22, nl_23, nl_24, nl_25, nl_26, nl_27, nl_28, nl_29, nl_30, nl_32, nl_33, nl_34, nl_35, nl_36, nl_37, nl_38, nl_39, nl_40, nl_41, nl_42, nl_43, nl_44, nl_45, nl_46, nl_47, nl_48, nl_49, nl_50, nl_51, nl_52, nl_53, nl_54, nl_55, nl_56, nl_57, nl_58, nl_59, nl_60, nl_61, nl_62, nl_64, nl_65, nl_66, nl_67, nl_68, nl_69, nl_92, nl_97, nl_99, nl_100, nl_122, nl_127, nl_128, nl_131, nl_132, nl_150, nl_200, nl_255, nl_256, nl_300, nl_342, nl_380, nl_381, nl_400, nl_401, nl_420, nl_500, nl_600, nl_800, nl_999, nl_1000, nl_1023, nl_1024, nl_1200, nl_2048, nl_2100, nl_4096, nl_9999, nl_10000, nl_10240, nl_999999, nl_1000000, if_pos, if_neg, v1, v2, h1, h2, q283_55, q283_59, Nat.add_zero]
  · show mj_den mj_P E d 283 4 _ _ _ = _
    rw [q283_4, h0, if_pos (Int32.le_refl _), q283_65]
theorem s_richest {n : Nat} {W : Nat → Nat} (hn : n ≤ 10) (hn0 : 1 ≤ n) (h0 : hi 2 0 = nI n) (hW : ∀ k, k < n → W k < 100000 ∧ mj_dc mj_P E (d + 2) 81 [.ref 2, .int (nI k)] (mj_hw w c hi hl) = some (some (.int (nI (W k))), mj_hw w c hi hl)) : mj_dc mj_P E (d + 3) 82 [.ref 2] (mj_hw w c hi hl) = some (some (.int (nI (wr_best W n))), mj_hw w c hi hl) := by
  rw [e82, q82_0]
  have hA : mj_den mj_P E (d + 2) 82 6 [.ref 2, .int (-1), .int (-1), .int 0, .float 0] [] (mj_hw w c hi hl) = mj_den mj_P E (d + 2) 82 6 [.ref 2, .int (nI (wr_best W 1)), .int (nI (W (wr_best W 1))), .int (nI 1), .int (nI (W 0))] [] (mj_hw w c hi hl) := by
    have hb : wr_best W 1 = 0 := by rw [wr_best_s]; split <;> rfl
    have h1 := hW 0 (by omega)
    have h2 : ¬ (nI (W 0) ≤ -1) := by rw [Int32.le_iff_toInt_le, mj_nIi (by omega)]; show ¬ ((W 0 : Int) ≤ -1); omega
    have h3 := h1.2
    rw [← mj_zz] at h3
    rw [hb, q82_6, h0]
    simp (disch := omega) only [↓reduceIte, Bool.false_eq_true, eq_self, mj_10, mj_01, mj_n10, mj_0n1, mj_1n1, mj_n11, mj_bi_some, mj_bv_some, mj_bj_some, mj_br_some, mj_r0, mj_r1, mj_q0, mj_q1, mj_b01, mj_q2, if_true, if_false, mj_it, mj_if, true_and, and_true, false_and, and_false, not_true_eq_false, not_false_eq_true, true_or, or_true, false_or, or_false, mj_nIle, mj_nIlt, mj_nIeq, mj_nI0, mj_nIc, mj_nIadd, mj_nIs, mj_ez, mj_ze, mj_eo, mj_ltz, mj_lez, mj_zlt, mj_olt, mj_lto, mj_leo, mj_ole, mj_nIn, mj_nnI, nl_2, nl_3, nl_4, nl_5, nl_6, nl_7, nl_8, nl_9, nl_10, nl_11, nl_12, nl_13, nl_14, nl_15, nl_16, nl_17, nl_18, nl_19, nl_20, nl_21, nl_22, nl_23, nl_24, nl_25, nl_26, nl_27, nl_28, nl_29, nl_30, nl_32, nl_33, nl_34, nl_35, nl_36, nl_37, nl_38, nl_39, nl_40, nl_41, nl_42, nl_43, nl_44, nl_45, nl_46, nl_47, nl_48, nl_49, nl_50, nl_51, nl_52, nl_53, nl_54, nl_55, nl_56, nl_57, nl_58, nl_59, nl_60, nl_61, nl_62, nl_64, nl_65, nl_66, nl_67, nl_68, nl_69, nl_92, nl_97, nl_99, nl_100, nl_122, nl_127, nl_128, nl_131, nl_132, nl_150, nl_200, nl_255, nl_256, nl_300, nl_342, nl_380, nl_381, nl_400, nl_401, nl_420, nl_500, nl_600, nl_800, nl_999, nl_1000, nl_1023, nl_1024, nl_1200, nl_2048, nl_2100, nl_4096, nl_9999, nl_10000, nl_10240, nl_999999, nl_1000000, if_pos, if_neg, h3, q82_25, h2, q82_38]
    rfl
  rw [hA]
  have key := lp_ex (fun k (u : Int32) => mj_den mj_P E (d + 2) 82 6 [.ref 2, .int (nI (wr_best W (k + 1))), .int (nI (W (wr_best W (k + 1)))), .int (nI (k + 1)), .int u] [] (mj_hw w c hi hl)) (fun _ _ => True) (n - 1) (fun k u hk _ => ⟨nI (W (k + 1)), ?_, trivial⟩) (nI (W 0)) trivial
  · obtain ⟨u, e1, _⟩ := key
    refine Eq.trans e1 ?_
    show mj_den mj_P E (d + 2) 82 6 [.ref 2, .int (nI (wr_best W (n - 1 + 1))), .int (nI (W (wr_best W (n - 1 + 1)))), .int (nI (n - 1 + 1)), .int u] [] (mj_hw w c hi hl) = _
    rw [show n - 1 + 1 = n by omega, q82_6_1, h0, if_pos (Int32.le_refl _), q82_44]
  · show mj_den mj_P E (d + 2) 82 6 [.ref 2, .int (nI (wr_best W (k + 1))), .int (nI (W (wr_best W (k + 1)))), .int (nI (k + 1)), .int u] [] (mj_hw w c hi hl) = mj_den mj_P E (d + 2) 82 6 [.ref 2, .int (nI (wr_best W (k + 1 + 1))), .int (nI (W (wr_best W (k + 1 + 1)))), .int (nI (k + 1 + 1)), .int (nI (W (k + 1)))] [] (mj_hw w c hi hl)
    obtain ⟨w1, w2⟩ := hW (k + 1) (by omega)
    have hb := wr_best_lt W (k + 1)
    obtain ⟨w3, _⟩ := hW (wr_best W (k + 1)) (by omega)
    rw [q82_6_1, h0, wr_best_s W (k + 1)]
    by_cases h : W (wr_best W (k + 1)) < W (k + 1)
    · simp (disch := omega) only [↓reduceIte, Bool.false_eq_true, eq_self, mj_10, mj_01, mj_n10, mj_0n1, mj_1n1, mj_n11, mj_bi_some, mj_bv_some, mj_bj_some, mj_br_some, mj_r0, mj_r1, mj_q0, mj_q1, mj_b01, mj_q2, if_true, if_false, mj_it, mj_if, true_and, and_true, false_and, and_false, not_true_eq_false, not_false_eq_true, true_or, or_true, false_or, or_false, mj_nIle, mj_nIlt, mj_nIeq, mj_nI0, mj_nIc, mj_nIadd, mj_nIs, mj_ez, mj_ze, mj_eo, mj_ltz, mj_lez, mj_zlt, mj_olt, mj_lto, mj_leo, mj_ole, mj_nIn, mj_nnI, nl_2, nl_3, nl_4, nl_5, nl_6, nl_7, nl_8, nl_9, nl_10, nl_11, nl_12, nl_13, nl_14, nl_15, nl_16, nl_17, nl_18, nl_19, nl_20, nl_21, nl_22, nl_23, nl_24, nl_25, nl_26, nl_27, nl_28, nl_29, nl_30, nl_32, nl_33, nl_34, nl_35, nl_36, nl_37, nl_38, nl_39, nl_40, nl_41, nl_42, nl_43, nl_44, nl_45, nl_46, nl_47, nl_48, nl_49, nl_50, nl_51, nl_52, nl_53, nl_54, nl_55, nl_56, nl_57, nl_58, nl_59, nl_60, nl_61, nl_62, nl_64, nl_65, nl_66, nl_67, nl_68, nl_69, nl_92, nl_97, nl_99, nl_100, nl_122, nl_127, nl_128, nl_131, nl_132, nl_150, nl_200, nl_255, nl_256, nl_300, nl_342, nl_380, nl_381, nl_400, nl_401, nl_420, nl_500, nl_600, nl_800, nl_999, nl_1000, nl_1023, nl_1024, nl_1200, nl_2048, nl_2100, nl_4096, nl_9999, nl_10000, nl_10240, nl_999999, nl_1000000, if_pos, if_neg, w2, q82_25_1, q82_38]
    · simp (disch := omega) only [↓reduceIte, Bool.false_eq_true, eq_self, mj_10, mj_01, mj_n10, mj_0n1, mj_1n1, mj_n11, mj_bi_some, mj_bv_some, mj_bj_some, mj_br_some, mj_r0, mj_r1, mj_q0, mj_q1, mj_b01, mj_q2, if_true, if_false, mj_it, mj_if, true_and, and_true, false_and, and_false, not_true_eq_false, not_false_eq_true, true_or, or_true, false_or, or_false, mj_nIle, mj_nIlt, mj_nIeq, mj_nI0, mj_nIc, mj_nIadd, mj_nIs, mj_ez, mj_ze, mj_eo, mj_ltz, mj_lez, mj_zlt, mj_olt, mj_lto, mj_leo, mj_ole, mj_nIn, mj_nnI, nl_2, nl_3, nl_4, nl_5, nl_6, nl_7, nl_8, nl_9, nl_10, nl_11, nl_12, nl_13, nl_14, nl_15, nl_16, nl_17, nl_18, nl_19, nl_20, nl_21, nl_22, nl_23, nl_24, nl_25, nl_26, nl_27, nl_28, nl_29, nl_30, nl_32, nl_33, nl_34, nl_35, nl_36, nl_37, nl_38, nl_39, nl_40, nl_41, nl_42, nl_43, nl_44, nl_45, nl_46, nl_47, nl_48, nl_49, nl_50, nl_51, nl_52, nl_53, nl_54, nl_55, nl_56, nl_57, nl_58, nl_59, nl_60, nl_61, nl_62, nl_64, nl_65, nl_66, nl_67, nl_68, nl_69, nl_92, nl_97, nl_99, nl_100, nl_122, nl_127, nl_128, nl_131, nl_132, nl_150, nl_200, nl_255, nl_256, nl_300, nl_342, nl_380, nl_381, nl_400, nl_401, nl_420, nl_500, nl_600, nl_800, nl_999, nl_1000, nl_1023, nl_1024, nl_1200, nl_2048, nl_2100, nl_4096, nl_9999, nl_10000, nl_10240, nl_999999, nl_1000000, if_pos, if_neg, w2, q82_25_1, q82_38]
end MJ52
theorem iv_rich {n l : Nat} {h m : mj_HI} (q : iv_J n l h m) : ∃ (pu wo : Nat → Nat), (∀ d, d < n → pu d ≤ 9999 ∧ h 5 d = nI (pu d) ∧ m 206 (15 + d) = nI (pu d)) ∧ (∀ k, k < l → wo k ≤ 999 ∧ h 11 k = nI (wo k) ∧ m 212 k = nI (wo k)) := by
  obtain ⟨_, hb, x3, x4, x5, x6, x7⟩ := iv_JX q
  obtain ⟨n10, l12, _⟩ := iv_Jn q
  refine ⟨fun d => (h 5 d).toNatClampNeg, fun k => (h 11 k).toNatClampNeg, fun d hd => ?_, fun k hk => ?_⟩
  · obtain ⟨p, p1, p2⟩ := x7 d hd
    have e1 : h 5 d = nI p := ((x3 d (by omega)).2.2.1).trans p2
    have e2 : (h 5 d).toNatClampNeg = p := by rw [e1]; exact mj_nIc (by omega)
    show (h 5 d).toNatClampNeg ≤ 9999 ∧ h 5 d = nI (h 5 d).toNatClampNeg ∧ m 206 (15 + d) = nI (h 5 d).toNatClampNeg
    rw [e2]; exact ⟨p1, e1, p2⟩
  · obtain ⟨p, p1, p2⟩ := iv_JWo q k hk
    have e1 : h 11 k = nI p := ((x5 k (by omega)).2).trans p2
    have e2 : (h 11 k).toNatClampNeg = p := by rw [e1]; exact mj_nIc (by omega)
    show (h 11 k).toNatClampNeg ≤ 999 ∧ h 11 k = nI (h 11 k).toNatClampNeg ∧ m 212 k = nI (h 11 k).toNatClampNeg
    rw [e2]; exact ⟨p1, e1, p2⟩
theorem cs_rich (a : Int32) : mj_Cs 143 284 [.int a] := by
  intro E d w c hi hl hE hw hI
  obtain ⟨n, l, q⟩ := iv_I_un.mp hI
  obtain ⟨n10, l12, mN, mL⟩ := iv_Jn q
  obtain ⟨⟨a0, a1, a2, a3, a4, a5, a6⟩, hb, x3, x4, x5, x6, x7⟩ := iv_JX q
  obtain ⟨pu, wo, hpu, hwo⟩ := iv_rich q
  by_cases ha : (0 ≤ a ∧ a ≤ nI 2) ∧ n ≠ 0
  · obtain ⟨ha, hn0⟩ := ha
    obtain ⟨W, hW⟩ : ∃ W : Nat → Nat, ∀ k, W k = wr_w (pu k) (fun j => decide (hi 206 (45 + j) - 1 = nI k)) wo l := ⟨_, fun _ => rfl⟩
    have hWb : ∀ k, k < n → W k < 100000 := fun k hk => by
      have := wr_w_bd (pu := pu k) (p := fun j => decide (hi 206 (45 + j) - 1 = nI k)) (wo := wo) l (fun j hj => (hwo j hj).1)
      have := (hpu k hk).1
      rw [hW]; omega
    have hWX : ∀ e k, k < n → mj_dc mj_P E (e + 2) 81 [.ref 2, .int (nI k)] (mj_hw w c hi hl) = some (some (.int (nI (W k))), mj_hw w c hi hl) := fun e k hk => by
      rw [hW]; exact s_wealth n10 l12 hk a0 a1 (hpu k hk).2.1 (fun j hj => by rw [(x6 j hj).1, decide_eq_true_iff]) (fun j hj => (hwo j hj).2.1)
    have hbl := wr_best_lt W n
    have hml := wr_mid_lt (wr_bel (hi 3) n) ((n - 1) / 2) n
    have hBb : ∀ k, k < n → wr_bel (hi 3) n k ≤ 10 := fun k hk => by
      have := iv_cnt_bd (fun o => decide (hi 3 o < hi 3 k ∨ (hi 3 o = hi 3 k ∧ o < k))) n
      exact Nat.le_trans this n10
    -- the reference, over any heap that has its rows
    have hWM : ∀ g : mj_HI, (∀ a k, 205 ≤ a → g a k = hi a k) → ∀ k, k < n → mj_dc mj_P E (d + 97 + 2) 282 [.ref 205, .int (nI k)] (mj_hw w c (mj_u g 205 0 0) hl) = some (some (.int (nI (W k))), mj_hw w c (mj_u g 205 0 0) hl) := fun g hg k hk => by
      rw [hW]; exact s_richM l12 (by omega) (by rw [mj_u_pt (by omega), hg _ _ (by omega)]; exact mL) (by rw [mj_u_pt (by omega), hg _ _ (by omega)]; exact (hpu k hk).2.2) (fun j hj => by rw [mj_u_pt (by omega), hg _ _ (by omega), decide_eq_true_iff]) (fun j hj => by rw [mj_u_pt (by omega), hg _ _ (by omega)]; exact (hwo j hj).2.2)
    have hM : ∀ g : mj_HI, (∀ a k, 205 ≤ a → g a k = hi a k) → mj_dc mj_P E (d + 100) 284 [.ref 205, .int a] (mj_hw w c g hl) = mj_den mj_P E (d + 99) 284 83 [.ref 205, .int a, .int (nI (wr_best W n)), .int (nI (wr_mid (wr_bel (hi 3) n) ((n - 1) / 2) n)), .int (nI n)] [] (mj_hw w c (mj_u g 205 0 0) hl) := by
      intro g hg
      have mNg : g 205 6 = nI n := by rw [hg _ _ (by omega)]; exact mN
      have mN' : (mj_u g 205 0 0) 205 6 = nI n := by rw [mj_u_pt (by omega)]; exact mNg
      simp (disch := omega) only [e284, q284_0, q284_19, q284_24, s_isIn, ↓reduceIte, Bool.false_eq_true, eq_self, mj_10, mj_01, mj_n10, mj_0n1, mj_1n1, mj_n11, mj_bi_some, mj_bv_some, mj_bj_some, mj_br_some, mj_r0, mj_r1, mj_q0, mj_q1, mj_b01, mj_q2, if_true, if_false, mj_it, mj_if, true_and, and_true, false_and, and_false, not_true_eq_false, not_false_eq_true, true_or, or_true, false_or, or_false, mj_nIle, mj_nIlt, mj_nIeq, mj_nI0, mj_nIc, mj_nIadd, mj_nIs, mj_ez, mj_ze, mj_eo, mj_ltz, mj_lez, mj_zlt, mj_olt, mj_lto, mj_leo, mj_ole, mj_nIn, mj_nnI, nl_2, nl_3, nl_4, nl_5, nl_6, nl_7, nl_8, nl_9, nl_10, nl_11, nl_12, nl_13, nl_14, nl_15, nl_16, nl_17, nl_18, nl_19, nl_20, nl_21, nl_22, nl_23, nl_24, nl_25, nl_26, nl_27, nl_28, nl_29, nl_30, nl_32, nl_33, nl_34, nl_35, nl_36, nl_37, nl_38, nl_39, nl_40, nl_41, nl_42, nl_43, nl_44, nl_45, nl_46, nl_47, nl_48, nl_49, nl_50, nl_51, nl_52, nl_53, nl_54, nl_55, nl_56, nl_57, nl_58, nl_59, nl_60, nl_61, nl_62, nl_64, nl_65, nl_66, nl_67, nl_68, nl_69, nl_92, nl_97, nl_99, nl_100, nl_122, nl_127, nl_128, nl_131, nl_132, nl_150, nl_200, nl_255, nl_256, nl_300, nl_342, nl_380, nl_381, nl_400, nl_401, nl_420, nl_500, nl_600, nl_800, nl_999, nl_1000, nl_1023, nl_1024, nl_1200, nl_2048, nl_2100, nl_4096, nl_9999, nl_10000, nl_10240, nl_999999, nl_1000000, if_pos, if_neg, ha, mNg]
      refine (lp_up (fun k => mj_den mj_P E (d + 99) 284 31 [.ref 205, .int a, .int (nI (wr_best W k)), .int (nI (wr_mid (wr_bel (hi 3) n) ((n - 1) / 2) k)), .int (nI k)] [] (mj_hw w c (mj_u g 205 0 0) hl)) n (fun k hk => ?_)).trans ?_
      · show mj_den mj_P E (d + 99) 284 31 [.ref 205, .int a, .int (nI (wr_best W k)), .int (nI (wr_mid (wr_bel (hi 3) n) ((n - 1) / 2) k)), .int (nI k)] [] (mj_hw w c (mj_u g 205 0 0) hl) = mj_den mj_P E (d + 99) 284 31 [.ref 205, .int a, .int (nI (wr_best W (k + 1))), .int (nI (wr_mid (wr_bel (hi 3) n) ((n - 1) / 2) (k + 1))), .int (nI (k + 1))] [] (mj_hw w c (mj_u g 205 0 0) hl)
        have hb1 := wr_best_lt W k
        have e1 : mj_dc mj_P E (d + 99) 282 [.ref 205, .int (nI k)] (mj_hw w c (mj_u g 205 0 0) hl) = _ := hWM g hg k hk
        have e2 : mj_dc mj_P E (d + 99) 282 [.ref 205, .int (nI (wr_best W k))] (mj_hw w c (mj_u g 205 0 0) hl) = _ := hWM g hg (wr_best W k) (by omega)
        have e3 : mj_dc mj_P E (d + 99) 283 [.ref 205, .int (nI k)] (mj_hw w c (mj_u g 205 0 0) hl) = some (some (.int (nI (wr_bel (hi 3) n k))), mj_hw w c (mj_u g 205 0 0) hl) :=
          s_belM (d := d + 98) n10 (by omega) mN' (fun j hj => by rw [mj_u_pt (by omega), hg _ _ (by omega)]; exact (x3 j hj).1.symm)
        have b1 := hWb k hk
        have b2 := hWb (wr_best W k) (by omega)
        have b3 := hBb k hk
        have h2 : (nI n - 1) / nI 2 = nI ((n - 1) / 2) := by rw [mj_nIp (by omega), mj_nIdiv (by omega) (by omega)]
        rw [q284_31, mN', wr_best_s, wr_mid_s]
        by_cases h : W (wr_best W k) < W k
        · by_cases h' : wr_bel (hi 3) n k = (n - 1) / 2
          · simp (disch := omega) only [↓reduceIte, Bool.false_eq_true, eq_self, mj_10, mj_01, mj_n10, mj_0n1, mj_1n1, mj_n11, mj_bi_some, mj_bv_some, mj_bj_some, mj_br_some, mj_r0, mj_r1, mj_q0, mj_q1, mj_b01, mj_q2, if_true, if_false, mj_it, mj_if, true_and, and_true, false_and, and_false, not_true_eq_false, not_false_eq_true, true_or, or_true, false_or, or_false, mj_nIle, mj_nIlt, mj_nIeq, mj_nI0, mj_nIc, mj_nIadd, mj_nIs, mj_ez, mj_ze, mj_eo, mj_ltz, mj_lez, mj_zlt, mj_olt, mj_lto, mj_leo, mj_ole, mj_nIn, mj_nnI, nl_2, nl_3, nl_4, nl_5, nl_6, nl_7, nl_8, nl_9, nl_10, nl_11, nl_12, nl_13, nl_14, nl_15, nl_16, nl_17, nl_18, nl_19, nl_20, nl_21, nl_22, nl_23, nl_24, nl_25, nl_26, nl_27, nl_28, nl_29, nl_30, nl_32, nl_33, nl_34, nl_35, nl_36, nl_37, nl_38, nl_39, nl_40, nl_41, nl_42, nl_43, nl_44, nl_45, nl_46, nl_47, nl_48, nl_49, nl_50, nl_51, nl_52, nl_53, nl_54, nl_55, nl_56, nl_57, nl_58, nl_59, nl_60, nl_61, nl_62, nl_64, nl_65, nl_66, nl_67, nl_68, nl_69, nl_92, nl_97, nl_99, nl_100, nl_122, nl_127, nl_128, nl_131, nl_132, nl_150, nl_200, nl_255, nl_256, nl_300, nl_342, nl_380, nl_381, nl_400, nl_401, nl_420, nl_500, nl_600, nl_800, nl_999, nl_1000, nl_1023, nl_1024, nl_1200, nl_2048, nl_2100, nl_4096, nl_9999, nl_10000, nl_10240, nl_999999, nl_1000000, if_pos, if_neg, e1, e2, e3, q284_46, q284_51, q284_57, q284_63, q284_77, mN', h2, h']
          · simp (disch := omega) only [↓reduceIte, Bool.false_eq_true, eq_self, mj_10, mj_01, mj_n10, mj_0n1, mj_1n1, mj_n11, mj_bi_some, mj_bv_some, mj_bj_some, mj_br_some, mj_r0, mj_r1, mj_q0, mj_q1, mj_b01, mj_q2, if_true, if_false, mj_it, mj_if, true_and, and_true, false_and, and_false, not_true_eq_false, not_false_eq_true, true_or, or_true, false_or, or_false, mj_nIle, mj_nIlt, mj_nIeq, mj_nI0, mj_nIc, mj_nIadd, mj_nIs, mj_ez, mj_ze, mj_eo, mj_ltz, mj_lez, mj_zlt, mj_olt, mj_lto, mj_leo, mj_ole, mj_nIn, mj_nnI, nl_2, nl_3, nl_4, nl_5, nl_6, nl_7, nl_8, nl_9, nl_10, nl_11, nl_12, nl_13, nl_14, nl_15, nl_16, nl_17, nl_18, nl_19, nl_20, nl_21, nl_22, nl_23, nl_24, nl_25, nl_26, nl_27, nl_28, nl_29, nl_30, nl_32, nl_33, nl_34, nl_35, nl_36, nl_37, nl_38, nl_39, nl_40, nl_41, nl_42, nl_43, nl_44, nl_45, nl_46, nl_47, nl_48, nl_49, nl_50, nl_51, nl_52, nl_53, nl_54, nl_55, nl_56, nl_57, nl_58, nl_59, nl_60, nl_61, nl_62, nl_64, nl_65, nl_66, nl_67, nl_68, nl_69, nl_92, nl_97, nl_99, nl_100, nl_122, nl_127, nl_128, nl_131, nl_132, nl_150, nl_200, nl_255, nl_256, nl_300, nl_342, nl_380, nl_381, nl_400, nl_401, nl_420, nl_500, nl_600, nl_800, nl_999, nl_1000, nl_1023, nl_1024, nl_1200, nl_2048, nl_2100, nl_4096, nl_9999, nl_10000, nl_10240, nl_999999, nl_1000000, if_pos, if_neg, e1, e2, e3, q284_46, q284_51, q284_57, q284_63, q284_77, mN', h2, h']
        · by_cases h' : wr_bel (hi 3) n k = (n - 1) / 2
          · simp (disch := omega) only [↓reduceIte, Bool.false_eq_true, eq_self, mj_10, mj_01, mj_n10, mj_0n1, mj_1n1, mj_n11, mj_bi_some, mj_bv_some, mj_bj_some, mj_br_some, mj_r0, mj_r1, mj_q0, mj_q1, mj_b01, mj_q2, if_true, if_false, mj_it, mj_if, true_and, and_true, false_and, and_false, not_true_eq_false, not_false_eq_true, true_or, or_true, false_or, or_false, mj_nIle, mj_nIlt, mj_nIeq, mj_nI0, mj_nIc, mj_nIadd, mj_nIs, mj_ez, mj_ze, mj_eo, mj_ltz, mj_lez, mj_zlt, mj_olt, mj_lto, mj_leo, mj_ole, mj_nIn, mj_nnI, nl_2, nl_3, nl_4, nl_5, nl_6, nl_7, nl_8, nl_9, nl_10, nl_11, nl_12, nl_13, nl_14, nl_15, nl_16, nl_17, nl_18, nl_19, nl_20, nl_21, nl_22, nl_23, nl_24, nl_25, nl_26, nl_27, nl_28, nl_29, nl_30, nl_32, nl_33, nl_34, nl_35, nl_36, nl_37, nl_38, nl_39, nl_40, nl_41, nl_42, nl_43, nl_44, nl_45, nl_46, nl_47, nl_48, nl_49, nl_50, nl_51, nl_52, nl_53, nl_54, nl_55, nl_56, nl_57, nl_58, nl_59, nl_60, nl_61, nl_62, nl_64, nl_65, nl_66, nl_67, nl_68, nl_69, nl_92, nl_97, nl_99, nl_100, nl_122, nl_127, nl_128, nl_131, nl_132, nl_150, nl_200, nl_255, nl_256, nl_300, nl_342, nl_380, nl_381, nl_400, nl_401, nl_420, nl_500, nl_600, nl_800, nl_999, nl_1000, nl_1023, nl_1024, nl_1200, nl_2048, nl_2100, nl_4096, nl_9999, nl_10000, nl_10240, nl_999999, nl_1000000, if_pos, if_neg, e1, e2, e3, q284_46, q284_51, q284_57, q284_63, q284_77, mN', h2, h']
          · simp (disch := omega) only [↓reduceIte, Bool.false_eq_true, eq_self, mj_10, mj_01, mj_n10, mj_0n1, mj_1n1, mj_n11, mj_bi_some, mj_bv_some, mj_bj_some, mj_br_some, mj_r0, mj_r1, mj_q0, mj_q1, mj_b01, mj_q2, if_true, if_false, mj_it, mj_if, true_and, and_true, false_and, and_false, not_true_eq_false, not_false_eq_true, true_or, or_true, false_or, or_false, mj_nIle, mj_nIlt, mj_nIeq, mj_nI0, mj_nIc, mj_nIadd, mj_nIs, mj_ez, mj_ze, mj_eo, mj_ltz, mj_lez, mj_zlt, mj_olt, mj_lto, mj_leo, mj_ole, mj_nIn, mj_nnI, nl_2, nl_3, nl_4, nl_5, nl_6, nl_7, nl_8, nl_9, nl_10, nl_11, nl_12, nl_13, nl_14, nl_15, nl_16, nl_17, nl_18, nl_19, nl_20, nl_21, nl_22, nl_23, nl_24, nl_25, nl_26, nl_27, nl_28, nl_29, nl_30, nl_32, nl_33, nl_34, nl_35, nl_36, nl_37, nl_38, nl_39, nl_40, nl_41, nl_42, nl_43, nl_44, nl_45, nl_46, nl_47, nl_48, nl_49, nl_50, nl_51, nl_52, nl_53, nl_54, nl_55, nl_56, nl_57, nl_58, nl_59, nl_60, nl_61, nl_62, nl_64, nl_65, nl_66, nl_67, nl_68, nl_69, nl_92, nl_97, nl_99, nl_100, nl_122, nl_127, nl_128, nl_131, nl_132, nl_150, nl_200, nl_255, nl_256, nl_300, nl_342, nl_380, nl_381, nl_400, nl_401, nl_420, nl_500, nl_600, nl_800, nl_999, nl_1000, nl_1023, nl_1024, nl_1200, nl_2048, nl_2100, nl_4096, nl_9999, nl_10000, nl_10240, nl_999999, nl_1000000, if_pos, if_neg, e1, e2, e3, q284_46, q284_51, q284_57, q284_63, q284_77, mN', h2, h']
      · show mj_den mj_P E (d + 99) 284 31 _ _ _ = _
        rw [q284_31, mN', if_pos (Int32.le_refl _)]
    have eR := s_richest (E := E) (d := d + 96) (w := w) (c := c) (hl := hl) n10 (by omega) a0 (fun k hk => ⟨hWb k hk, hWX _ k hk⟩)
    by_cases h2 : a = nI 2
    · subst h2
      obtain ⟨g, eg, gS, gf⟩ := s_sort204 (E := E) (d := d + 97) (w := w) (c := c) (hi := hi) (hl := hl) n10
      obtain ⟨r1, r2⟩ := wr_med gS (show (n - 1) / 2 < n by omega)
      have gI : iv_I (mj_u g 205 0 0) (mj_u g 205 0 0) := iv_J_same q (fun a k h => by rw [mj_u_pt (by omega), gf _ _ (by omega)]) (fun a k h => by rw [mj_u_pt (by omega), gf _ _ (by omega)]) (fun k h => by rw [mj_u_pt (by omega), gf _ _ (by omega)])
      refine ⟨g 204 ((n - 1) / 2), w, c, g, hl, mj_u g 205 0 0, ?_, ?_, gI, hw⟩
      · have e1 : mj_dc mj_P E (d + 98) 150 [.ref 204, .ref 3, .int (nI n)] (mj_hw w c hi hl) = _ := eg
        have h3 : (nI n - 1) / nI 2 = nI ((n - 1) / 2) := by rw [mj_nIp (by omega), mj_nIdiv (by omega) (by omega)]
        have h4 : Int32.ofNat 10 = nI 10 := rfl
        simp (disch := omega) only [q143_0, q143_13, q143_25, q143_45, e143, q15_0, q15_8, q15_11, q15_19, q15_28, e15, s_within, s_min, ↓reduceIte, Bool.false_eq_true, eq_self, mj_10, mj_01, mj_n10, mj_0n1, mj_1n1, mj_n11, mj_bi_some, mj_bv_some, mj_bj_some, mj_br_some, mj_r0, mj_r1, mj_q0, mj_q1, mj_b01, mj_q2, if_true, if_false, mj_it, mj_if, true_and, and_true, false_and, and_false, not_true_eq_false, not_false_eq_true, true_or, or_true, false_or, or_false, mj_nIle, mj_nIlt, mj_nIeq, mj_nI0, mj_nIc, mj_nIadd, mj_nIs, mj_ez, mj_ze, mj_eo, mj_ltz, mj_lez, mj_zlt, mj_olt, mj_lto, mj_leo, mj_ole, mj_nIn, mj_nnI, nl_2, nl_3, nl_4, nl_5, nl_6, nl_7, nl_8, nl_9, nl_10, nl_11, nl_12, nl_13, nl_14, nl_15, nl_16, nl_17, nl_18, nl_19, nl_20, nl_21, nl_22, nl_23, nl_24, nl_25, nl_26, nl_27, nl_28, nl_29, nl_30, nl_32, nl_33, nl_34, nl_35, nl_36, nl_37, nl_38, nl_39, nl_40, nl_41, nl_42, nl_43, nl_44, nl_45, nl_46, nl_47, nl_48, nl_49, nl_50, nl_51, nl_52, nl_53, nl_54, nl_55, nl_56, nl_57, nl_58, nl_59, nl_60, nl_61, nl_62, nl_64, nl_65, nl_66, nl_67, nl_68, nl_69, nl_92, nl_97, nl_99, nl_100, nl_122, nl_127, nl_128, nl_131, nl_132, nl_150, nl_200, nl_255, nl_256, nl_300, nl_342, nl_380, nl_381, nl_400, nl_401, nl_420, nl_500, nl_600, nl_800, nl_999, nl_1000, nl_1023, nl_1024, nl_1200, nl_2048, nl_2100, nl_4096, nl_9999, nl_10000, nl_10240, nl_999999, nl_1000000, if_pos, if_neg, ha, a0, h3, h4, e1]
      · have h5 : (mj_u g 205 0 0) 206 (5 + wr_mid (wr_bel (hi 3) n) ((n - 1) / 2) n) = g 204 ((n - 1) / 2) := by
          rw [mj_u_pt (by omega), gf _ _ (by omega), ← r1]; exact (x3 _ (by omega)).1.symm
        rw [hM g (fun a k h => gf a k (by omega)), q284_83]
        simp (disch := omega) only [↓reduceIte, Bool.false_eq_true, eq_self, mj_10, mj_01, mj_n10, mj_0n1, mj_1n1, mj_n11, mj_bi_some, mj_bv_some, mj_bj_some, mj_br_some, mj_r0, mj_r1, mj_q0, mj_q1, mj_b01, mj_q2, if_true, if_false, mj_it, mj_if, true_and, and_true, false_and, and_false, not_true_eq_false, not_false_eq_true, true_or, or_true, false_or, or_false, mj_nIle, mj_nIlt, mj_nIeq, mj_nI0, mj_nIc, mj_nIadd, mj_nIs, mj_ez, mj_ze, mj_eo, mj_ltz, mj_lez, mj_zlt, mj_olt, mj_lto, mj_leo, mj_ole, mj_nIn, mj_nnI, nl_2, nl_3, nl_4, nl_5, nl_6, nl_7, nl_8, nl_9, nl_10, nl_11, nl_12, nl_13, nl_14, nl_15, nl_16, nl_17, nl_18, nl_19, nl_20, nl_21, nl_22, nl_23, nl_24, nl_25, nl_26, nl_27, nl_28, nl_29, nl_30, nl_32, nl_33, nl_34, nl_35, nl_36, nl_37, nl_38, nl_39, nl_40, nl_41, nl_42, nl_43, nl_44, nl_45, nl_46, nl_47, nl_48, nl_49, nl_50, nl_51, nl_52, nl_53, nl_54, nl_55, nl_56, nl_57, nl_58, nl_59, nl_60, nl_61, nl_62, nl_64, nl_65, nl_66, nl_67, nl_68, nl_69, nl_92, nl_97, nl_99, nl_100, nl_122, nl_127, nl_128, nl_131, nl_132, nl_150, nl_200, nl_255, nl_256, nl_300, nl_342, nl_380, nl_381, nl_400, nl_401, nl_420, nl_500, nl_600, nl_800, nl_999, nl_1000, nl_1023, nl_1024, nl_1200, nl_2048, nl_2100, nl_4096, nl_9999, nl_10000, nl_10240, nl_999999, nl_1000000, if_pos, if_neg, q284_91, q284_104, q284_112, h5]
    · by_cases h0 : a = 0
      · subst h0
        refine ⟨nI (wr_best W n), w, c, hi, hl, mj_u hi 205 0 0, ?_, ?_, iv_told q, hw⟩
        · have e1 : mj_dc mj_P E (d + 99) 82 [.ref 2] (mj_hw w c hi hl) = _ := eR
          simp (disch := omega) only [q143_0, q143_13, q143_25, q143_46, q143_50, q143_64, e143, s_within, ↓reduceIte, Bool.false_eq_true, eq_self, mj_10, mj_01, mj_n10, mj_0n1, mj_1n1, mj_n11, mj_bi_some, mj_bv_some, mj_bj_some, mj_br_some, mj_r0, mj_r1, mj_q0, mj_q1, mj_b01, mj_q2, if_true, if_false, mj_it, mj_if, true_and, and_true, false_and, and_false, not_true_eq_false, not_false_eq_true, true_or, or_true, false_or, or_false, mj_nIle, mj_nIlt, mj_nIeq, mj_nI0, mj_nIc, mj_nIadd, mj_nIs, mj_ez, mj_ze, mj_eo, mj_ltz, mj_lez, mj_zlt, mj_olt, mj_lto, mj_leo, mj_ole, mj_nIn, mj_nnI, nl_2, nl_3, nl_4, nl_5, nl_6, nl_7, nl_8, nl_9, nl_10, nl_11, nl_12, nl_13, nl_14, nl_15, nl_16, nl_17, nl_18, nl_19, nl_20, nl_21, nl_22, nl_23, nl_24, nl_25, nl_26, nl_27, nl_28, nl_29, nl_30, nl_32, nl_33, nl_34, nl_35, nl_36, nl_37, nl_38, nl_39, nl_40, nl_41, nl_42, nl_43, nl_44, nl_45, nl_46, nl_47, nl_48, nl_49, nl_50, nl_51, nl_52, nl_53, nl_54, nl_55, nl_56, nl_57, nl_58, nl_59, nl_60, nl_61, nl_62, nl_64, nl_65, nl_66, nl_67, nl_68, nl_69, nl_92, nl_97, nl_99, nl_100, nl_122, nl_127, nl_128, nl_131, nl_132, nl_150, nl_200, nl_255, nl_256, nl_300, nl_342, nl_380, nl_381, nl_400, nl_401, nl_420, nl_500, nl_600, nl_800, nl_999, nl_1000, nl_1023, nl_1024, nl_1200, nl_2048, nl_2100, nl_4096, nl_9999, nl_10000, nl_10240, nl_999999, nl_1000000, if_pos, if_neg, ha, a0, h2, e1]
        · rw [hM hi (fun a k h => rfl), q284_83]
          simp (disch := omega) only [↓reduceIte, Bool.false_eq_true, eq_self, mj_10, mj_01, mj_n10, mj_0n1, mj_1n1, mj_n11, mj_bi_some, mj_bv_some, mj_bj_some, mj_br_some, mj_r0, mj_r1, mj_q0, mj_q1, mj_b01, mj_q2, if_true, if_false, mj_it, mj_if, true_and, and_true, false_and, and_false, not_true_eq_false, not_false_eq_true, true_or, or_true, false_or, or_false, mj_nIle, mj_nIlt, mj_nIeq, mj_nI0, mj_nIc, mj_nIadd, mj_nIs, mj_ez, mj_ze, mj_eo, mj_ltz, mj_lez, mj_zlt, mj_olt, mj_lto, mj_leo, mj_ole, mj_nIn, mj_nnI, nl_2, nl_3, nl_4, nl_5, nl_6, nl_7, nl_8, nl_9, nl_10, nl_11, nl_12, nl_13, nl_14, nl_15, nl_16, nl_17, nl_18, nl_19, nl_20, nl_21, nl_22, nl_23, nl_24, nl_25, nl_26, nl_27, nl_28, nl_29, nl_30, nl_32, nl_33, nl_34, nl_35, nl_36, nl_37, nl_38, nl_39, nl_40, nl_41, nl_42, nl_43, nl_44, nl_45, nl_46, nl_47, nl_48, nl_49, nl_50, nl_51, nl_52, nl_53, nl_54, nl_55, nl_56, nl_57, nl_58, nl_59, nl_60, nl_61, nl_62, nl_64, nl_65, nl_66, nl_67, nl_68, nl_69, nl_92, nl_97, nl_99, nl_100, nl_122, nl_127, nl_128, nl_131, nl_132, nl_150, nl_200, nl_255, nl_256, nl_300, nl_342, nl_380, nl_381, nl_400, nl_401, nl_420, nl_500, nl_600, nl_800, nl_999, nl_1000, nl_1023, nl_1024, nl_1200, nl_2048, nl_2100, nl_4096, nl_9999, nl_10000, nl_10240, nl_999999, nl_1000000, if_pos, if_neg, q284_112]
      · have h1 : a = 1 := by
          obtain ⟨A, hA, rfl⟩ := mj_ofn ha.1
          have h3 := ha.2
          rw [mj_nIle hA (by omega)] at h3
          rw [mj_ez hA] at h0
          rw [mj_nIeq hA (by omega)] at h2
          rw [show A = 1 by omega]; rfl
        subst h1
        refine ⟨nI (W (wr_best W n)), w, c, hi, hl, mj_u hi 205 0 0, ?_, ?_, iv_told q, hw⟩
        · have e1 : mj_dc mj_P E (d + 99) 82 [.ref 2] (mj_hw w c hi hl) = _ := eR
          have e2 : mj_dc mj_P E (d + 99) 81 [.ref 2, .int (nI (wr_best W n))] (mj_hw w c hi hl) = _ := hWX (d + 97) (wr_best W n) (by omega)
          simp (disch := omega) only [q143_0, q143_13, q143_25, q143_46, q143_50, q143_59, q143_64, e143, s_within, ↓reduceIte, Bool.false_eq_true, eq_self, mj_10, mj_01, mj_n10, mj_0n1, mj_1n1, mj_n11, mj_bi_some, mj_bv_some, mj_bj_some, mj_br_some, mj_r0, mj_r1, mj_q0, mj_q1, mj_b01, mj_q2, if_true, if_false, mj_it, mj_if, true_and, and_true, false_and, and_false, not_true_eq_false, not_false_eq_true, true_or, or_true, false_or, or_false, mj_nIle, mj_nIlt, mj_nIeq, mj_nI0, mj_nIc, mj_nIadd, mj_nIs, mj_ez, mj_ze, mj_eo, mj_ltz, mj_lez, mj_zlt, mj_olt, mj_lto, mj_leo, mj_ole, mj_nIn, mj_nnI, nl_2, nl_3, nl_4, nl_5, nl_6, nl_7, nl_8, nl_9, nl_10, nl_11, nl_12, nl_13, nl_14, nl_15, nl_16, nl_17, nl_18, nl_19, nl_20, nl_21, nl_22, nl_23, nl_24, nl_25, nl_26, nl_27, nl_28, nl_29, nl_30, nl_32, nl_33, nl_34, nl_35, nl_36, nl_37, nl_38, nl_39, nl_40, nl_41, nl_42, nl_43, nl_44, nl_45, nl_46, nl_47, nl_48, nl_49, nl_50, nl_51, nl_52, nl_53, nl_54, nl_55, nl_56, nl_57, nl_58, nl_59, nl_60, nl_61, nl_62, nl_64, nl_65, nl_66, nl_67, nl_68, nl_69, nl_92, nl_97, nl_99, nl_100, nl_122, nl_127, nl_128, nl_131, nl_132, nl_150, nl_200, nl_255, nl_256, nl_300, nl_342, nl_380, nl_381, nl_400, nl_401, nl_420, nl_500, nl_600, nl_800, nl_999, nl_1000, nl_1023, nl_1024, nl_1200, nl_2048, nl_2100, nl_4096, nl_9999, nl_10000, nl_10240, nl_999999, nl_1000000, if_pos, if_neg, ha, a0, h2, e1, e2]
        · have e2 : mj_dc mj_P E (d + 99) 282 [.ref 205, .int (nI (wr_best W n))] (mj_hw w c (mj_u hi 205 0 0) hl) = _ := hWM hi (fun _ _ _ => rfl) (wr_best W n) (by omega)
          rw [hM hi (fun a k h => rfl), q284_83]
          simp (disch := omega) only [↓reduceIte, Bool.false_eq_true, eq_self, mj_10, mj_01, mj_n10, mj_0n1, mj_1n1, mj_n11, mj_bi_some, mj_bv_some, mj_bj_some, mj_br_some, mj_r0, mj_r1, mj_q0, mj_q1, mj_b01, mj_q2, if_true, if_false, mj_it, mj_if, true_and, and_true, false_and, and_false, not_true_eq_false, not_false_eq_true, true_or, or_true, false_or, or_false, mj_nIle, mj_nIlt, mj_nIeq, mj_nI0, mj_nIc, mj_nIadd, mj_nIs, mj_ez, mj_ze, mj_eo, mj_ltz, mj_lez, mj_zlt, mj_olt, mj_lto, mj_leo, mj_ole, mj_nIn, mj_nnI, nl_2, nl_3, nl_4, nl_5, nl_6, nl_7, nl_8, nl_9, nl_10, nl_11, nl_12, nl_13, nl_14, nl_15, nl_16, nl_17, nl_18, nl_19, nl_20, nl_21, nl_22, nl_23, nl_24, nl_25, nl_26, nl_27, nl_28, nl_29, nl_30, nl_32, nl_33, nl_34, nl_35, nl_36, nl_37, nl_38, nl_39, nl_40, nl_41, nl_42, nl_43, nl_44, nl_45, nl_46, nl_47, nl_48, nl_49, nl_50, nl_51, nl_52, nl_53, nl_54, nl_55, nl_56, nl_57, nl_58, nl_59, nl_60, nl_61, nl_62, nl_64, nl_65, nl_66, nl_67, nl_68, nl_69, nl_92, nl_97, nl_99, nl_100, nl_122, nl_127, nl_128, nl_131, nl_132, nl_150, nl_200, nl_255, nl_256, nl_300, nl_342, nl_380, nl_381, nl_400, nl_401, nl_420, nl_500, nl_600, nl_800, nl_999, nl_1000, nl_1023, nl_1024, nl_1200, nl_2048, nl_2100, nl_4096, nl_9999, nl_10000, nl_10240, nl_999999, nl_1000000, if_pos, if_neg, q284_91, q284_101, q284_112, e2]
  · refine ⟨-1, w, c, hi, hl, mj_u hi 205 0 0, ?_, ?_, iv_told q, hw⟩
    · by_cases ha2 : 0 ≤ a ∧ a ≤ nI 2
      · have hn0 : n = 0 := Classical.byContradiction (fun z => ha ⟨ha2, z⟩)
        subst hn0
        simp (disch := omega) only [q143_0, q143_13, q143_23, e143, s_within, ↓reduceIte, Bool.false_eq_true, eq_self, mj_10, mj_01, mj_n10, mj_0n1, mj_1n1, mj_n11, mj_bi_some, mj_bv_some, mj_bj_some, mj_br_some, mj_r0, mj_r1, mj_q0, mj_q1, mj_b01, mj_q2, if_true, if_false, mj_it, mj_if, true_and, and_true, false_and, and_false, not_true_eq_false, not_false_eq_true, true_or, or_true, false_or, or_false, mj_nIle, mj_nIlt, mj_nIeq, mj_nI0, mj_nIc, mj_nIadd, mj_nIs, mj_ez, mj_ze, mj_eo, mj_ltz, mj_lez, mj_zlt, mj_olt, mj_lto, mj_leo, mj_ole, mj_nIn, mj_nnI, nl_2, nl_3, nl_4, nl_5, nl_6, nl_7, nl_8, nl_9, nl_10, nl_11, nl_12, nl_13, nl_14, nl_15, nl_16, nl_17, nl_18, nl_19, nl_20, nl_21, nl_22, nl_23, nl_24, nl_25, nl_26, nl_27, nl_28, nl_29, nl_30, nl_32, nl_33, nl_34, nl_35, nl_36, nl_37, nl_38, nl_39, nl_40, nl_41, nl_42, nl_43, nl_44, nl_45, nl_46, nl_47, nl_48, nl_49, nl_50, nl_51, nl_52, nl_53, nl_54, nl_55, nl_56, nl_57, nl_58, nl_59, nl_60, nl_61, nl_62, nl_64, nl_65, nl_66, nl_67, nl_68, nl_69, nl_92, nl_97, nl_99, nl_100, nl_122, nl_127, nl_128, nl_131, nl_132, nl_150, nl_200, nl_255, nl_256, nl_300, nl_342, nl_380, nl_381, nl_400, nl_401, nl_420, nl_500, nl_600, nl_800, nl_999, nl_1000, nl_1023, nl_1024, nl_1200, nl_2048, nl_2100, nl_4096, nl_9999, nl_10000, nl_10240, nl_999999, nl_1000000, if_pos, if_neg, ha2, a0]
      · simp (disch := omega) only [q143_0, q143_13, q143_23, e143, s_within, ↓reduceIte, Bool.false_eq_true, eq_self, mj_10, mj_01, mj_n10, mj_0n1, mj_1n1, mj_n11, mj_bi_some, mj_bv_some, mj_bj_some, mj_br_some, mj_r0, mj_r1, mj_q0, mj_q1, mj_b01, mj_q2, if_true, if_false, mj_it, mj_if, true_and, and_true, false_and, and_false, not_true_eq_false, not_false_eq_true, true_or, or_true, false_or, or_false, mj_nIle, mj_nIlt, mj_nIeq, mj_nI0, mj_nIc, mj_nIadd, mj_nIs, mj_ez, mj_ze, mj_eo, mj_ltz, mj_lez, mj_zlt, mj_olt, mj_lto, mj_leo, mj_ole, mj_nIn, mj_nnI, nl_2, nl_3, nl_4, nl_5, nl_6, nl_7, nl_8, nl_9, nl_10, nl_11, nl_12, nl_13, nl_14, nl_15, nl_16, nl_17, nl_18, nl_19, nl_20, nl_21, nl_22, nl_23, nl_24, nl_25, nl_26, nl_27, nl_28, nl_29, nl_30, nl_32, nl_33, nl_34, nl_35, nl_36, nl_37, nl_38, nl_39, nl_40, nl_41, nl_42, nl_43, nl_44, nl_45, nl_46, nl_47, nl_48, nl_49, nl_50, nl_51, nl_52, nl_53, nl_54, nl_55, nl_56, nl_57, nl_58, nl_59, nl_60, nl_61, nl_62, nl_64, nl_65, nl_66, nl_67, nl_68, nl_69, nl_92, nl_97, nl_99, nl_100, nl_122, nl_127, nl_128, nl_131, nl_132, nl_150, nl_200, nl_255, nl_256, nl_300, nl_342, nl_380, nl_381, nl_400, nl_401, nl_420, nl_500, nl_600, nl_800, nl_999, nl_1000, nl_1023, nl_1024, nl_1200, nl_2048, nl_2100, nl_4096, nl_9999, nl_10000, nl_10240, nl_999999, nl_1000000, if_pos, if_neg, ha2]
    · by_cases hn0 : n = 0
      · subst hn0
        simp (disch := omega) only [e284, q284_0, q284_22, ↓reduceIte, Bool.false_eq_true, eq_self, mj_10, mj_01, mj_n10, mj_0n1, mj_1n1, mj_n11, mj_bi_some, mj_bv_some, mj_bj_some, mj_br_some, mj_r0, mj_r1, mj_q0, mj_q1, mj_b01, mj_q2, if_true, if_false, mj_it, mj_if, true_and, and_true, false_and, and_false, not_true_eq_false, not_false_eq_true, true_or, or_true, false_or, or_false, mj_nIle, mj_nIlt, mj_nIeq, mj_nI0, mj_nIc, mj_nIadd, mj_nIs, mj_ez, mj_ze, mj_eo, mj_ltz, mj_lez, mj_zlt, mj_olt, mj_lto, mj_leo, mj_ole, mj_nIn, mj_nnI, nl_2, nl_3, nl_4, nl_5, nl_6, nl_7, nl_8, nl_9, nl_10, nl_11, nl_12, nl_13, nl_14, nl_15, nl_16, nl_17, nl_18, nl_19, nl_20, nl_21, nl_22, nl_23, nl_24, nl_25, nl_26, nl_27, nl_28, nl_29, nl_30, nl_32, nl_33, nl_34, nl_35, nl_36, nl_37, nl_38, nl_39, nl_40, nl_41, nl_42, nl_43, nl_44, nl_45, nl_46, nl_47, nl_48, nl_49, nl_50, nl_51, nl_52, nl_53, nl_54, nl_55, nl_56, nl_57, nl_58, nl_59, nl_60, nl_61, nl_62, nl_64, nl_65, nl_66, nl_67, nl_68, nl_69, nl_92, nl_97, nl_99, nl_100, nl_122, nl_127, nl_128, nl_131, nl_132, nl_150, nl_200, nl_255, nl_256, nl_300, nl_342, nl_380, nl_381, nl_400, nl_401, nl_420, nl_500, nl_600, nl_800, nl_999, nl_1000, nl_1023, nl_1024, nl_1200, nl_2048, nl_2100, nl_4096, nl_9999, nl_10000, nl_10240, nl_999999, nl_1000000, if_pos, if_neg, mN]
      · have ha2 : ¬ (0 ≤ a ∧ a ≤ nI 2) := fun z => ha ⟨z, hn0⟩
        simp (disch := omega) only [e284, q284_0, q284_19, q284_22, s_isIn, ↓reduceIte, Bool.false_eq_true, eq_self, mj_10, mj_01, mj_n10, mj_0n1, mj_1n1, mj_n11, mj_bi_some, mj_bv_some, mj_bj_some, mj_br_some, mj_r0, mj_r1, mj_q0, mj_q1, mj_b01, mj_q2, if_true, if_false, mj_it, mj_if, true_and, and_true, false_and, and_false, not_true_eq_false, not_false_eq_true, true_or, or_true, false_or, or_false, mj_nIle, mj_nIlt, mj_nIeq, mj_nI0, mj_nIc, mj_nIadd, mj_nIs, mj_ez, mj_ze, mj_eo, mj_ltz, mj_lez, mj_zlt, mj_olt, mj_lto, mj_leo, mj_ole, mj_nIn, mj_nnI, nl_2, nl_3, nl_4, nl_5, nl_6, nl_7, nl_8, nl_9, nl_10, nl_11, nl_12, nl_13, nl_14, nl_15, nl_16, nl_17, nl_18, nl_19, nl_20, nl_21, nl_22, nl_23, nl_24, nl_25, nl_26, nl_27, nl_28, nl_29, nl_30, nl_32, nl_33, nl_34, nl_35, nl_36, nl_37, nl_38, nl_39, nl_40, nl_41, nl_42, nl_43, nl_44, nl_45, nl_46, nl_47, nl_48, nl_49, nl_50, nl_51, nl_52, nl_53, nl_54, nl_55, nl_56, nl_57, nl_58, nl_59, nl_60, nl_61, nl_62, nl_64, nl_65, nl_66, nl_67, nl_68, nl_69, nl_92, nl_97, nl_99, nl_100, nl_122, nl_127, nl_128, nl_131, nl_132, nl_150, nl_200, nl_255, nl_256, nl_300, nl_342, nl_380, nl_381, nl_400, nl_401, nl_420, nl_500, nl_600, nl_800, nl_999, nl_1000, nl_1023, nl_1024, nl_1200, nl_2048, nl_2100, nl_4096, nl_9999, nl_10000, nl_10240, nl_999999, nl_1000000, if_pos, if_neg, mN, ha2]
