/-! rows sorted; rich -/
theorem iv_cnt_mono {p q : Nat → Bool} (n : Nat) (h : ∀ i, i < n → p i = true → q i = true) : iv_cnt p n ≤ iv_cnt q n := by
  induction n with
  | zero => exact Nat.le_refl _
  | succ n ih =>
    rw [iv_cnt_s, iv_cnt_s]
    have h1 := ih (fun i hi => h i (by omega))
    have h2 := h n (by omega)
    by_cases hp : p n = true
    · rw [if_pos hp, if_pos (h2 hp)]; omega
    · rw [if_neg hp]; omega
theorem iv_cnt_add {p q r : Nat → Bool} (n : Nat) (h : ∀ i, i < n → (p i = true ∧ q i = false ∧ r i = true) ∨ (p i = false ∧ q i = true ∧ r i = true) ∨ (p i = false ∧ q i = false ∧ r i = false)) : iv_cnt r n = iv_cnt p n + iv_cnt q n := by
  induction n with
  | zero => rfl
  | succ n ih =>
    rw [iv_cnt_s, iv_cnt_s, iv_cnt_s, ih (fun i hi => h i (by omega))]
    rcases h n (by omega) with ⟨h1, h2, h3⟩ | ⟨h1, h2, h3⟩ | ⟨h1, h2, h3⟩
    · rw [h1, h2, h3]; simp only [if_true, Bool.false_eq_true, if_false]; omega
    · rw [h1, h2, h3]; simp only [if_true, Bool.false_eq_true, if_false]; omega
    · rw [h1, h2, h3]; simp only [Bool.false_eq_true, if_false]; omega
theorem iv_cnt_cut {p q : Nat → Bool} {k : Nat} (n : Nat) (hk : k ≤ n) (h : ∀ i, i < n → q i = (p i && decide (i < k))) : iv_cnt q n = iv_cnt p k := by
  induction n with
  | zero => rw [show k = 0 by omega]; rfl
  | succ n ih =>
    by_cases hkn : k = n + 1
    · subst hkn
      exact iv_cnt_congr _ (fun i hi => by rw [h i hi, decide_eq_true hi, Bool.and_true])
    · rw [iv_cnt_s, ih (by omega) (fun i hi => h i (by omega)), h n (by omega), decide_eq_false (by omega), Bool.and_false]; rfl
theorem iv_cnt_kth {p : Nat → Bool} {k : Nat} : ∀ {n : Nat}, k < iv_cnt p n → ∃ i, i < n ∧ p i = true ∧ iv_cnt p i = k := by
  intro n
  induction n with
  | zero => intro h; exact absurd h (Nat.not_lt_zero k)
  | succ n ih =>
    intro h
    rcases Nat.lt_or_ge k (iv_cnt p n) with h1 | h1
    · obtain ⟨i, h2, h3⟩ := ih h1; exact ⟨i, by omega, h3⟩
    · rw [iv_cnt_s] at h
      by_cases hp : p n = true
      · rw [if_pos hp] at h; exact ⟨n, by omega, hp, by omega⟩
      · rw [if_neg hp] at h; omega
def ws_cle (v : Nat → Int32) (x : Int) (i : Nat) : Nat := iv_cnt (fun o => decide ((v o).toInt ≤ x)) i
theorem ws_cle_m {v : Nat → Int32} {x y : Int} (h : x ≤ y) (i : Nat) : ws_cle v x i ≤ ws_cle v y i :=
  iv_cnt_mono i (fun o _ h1 => decide_eq_true (Int.le_trans (of_decide_eq_true h1) h))
def ws_S (S v : Nat → Int32) (i : Nat) : Prop := ∀ j, j < i → ∀ x : Int, (S j).toInt ≤ x ↔ j < ws_cle v x i
theorem ws_ins {S S' v : Nat → Int32} {i p : Nat} (h : ws_S S v i) (hp : p = ws_cle v (v i).toInt i) (h1 : ∀ j, j < p → S' j = S j) (h2 : S' p = v i) (h3 : ∀ j, p < j → j ≤ i → S' j = S (j - 1)) : ws_S S' v (i + 1) := by
  intro j hj x
  have hpi : p ≤ i := by rw [hp]; exact iv_cnt_bd _ _
  rw [show ws_cle v x (i + 1) = ws_cle v x i + (if decide ((v i).toInt ≤ x) = true then 1 else 0) from rfl]
  by_cases hx : (v i).toInt ≤ x
  · rw [if_pos (decide_eq_true hx)]
    have hm : p ≤ ws_cle v x i := by rw [hp]; exact ws_cle_m hx i
    rcases Nat.lt_trichotomy j p with hjp | hjp | hjp
    · rw [h1 j hjp, h j (by omega) x]; omega
    · subst hjp; rw [h2]; constructor
      · intro _; omega
      · intro _; exact hx
    · rw [h3 j hjp (by omega), h (j - 1) (by omega) x]; omega
  · rw [if_neg (fun z => hx (of_decide_eq_true z)), Nat.add_zero]
    have hm : ws_cle v x i ≤ p := by rw [hp]; exact ws_cle_m (by omega) i
    rcases Nat.lt_trichotomy j p with hjp | hjp | hjp
    · rw [h1 j hjp, h j (by omega) x]
    · subst hjp; rw [h2]; constructor
      · intro z; exact absurd z hx
      · intro z; omega
    · rw [h3 j hjp (by omega), h (j - 1) (by omega) x]; omega
section MJ51
variable {E : mj_E} {d w c : Nat} {hi : mj_HI} {hl : Nat → Nat → Int64}
theorem s_sh204 {S : Nat → Int32} {n i p : Nat} (hi9 : i < 10) (hS : ws_S S (hi 3) i) (hp : p = ws_cle (hi 3) (hi 3 i).toInt i) : ∀ (f at' : Nat) (g : mj_HI), at' = p + f → at' ≤ i → (∀ j, j < at' → g 204 j = S j) → (∀ j, at' < j → j ≤ i → g 204 j = S (j - 1)) → (∀ a k, a ≠ 204 → g a k = hi a k) → ∃ g', mj_den mj_P E d 150 22 [.ref 204, .ref 3, .int (nI n), .int (nI i), .int (nI at')] [] (mj_hw w c g hl) = mj_den mj_P E d 150 55 [.ref 204, .ref 3, .int (nI n), .int (nI i), .int (nI p)] [] (mj_hw w c g' hl) ∧ (∀ j, j < p → g' 204 j = S j) ∧ (∀ j, p < j → j ≤ i → g' 204 j = S (j - 1)) ∧ ∀ a k, a ≠ 204 → g' a k = hi a k := by
  intro f
  induction f with
  | zero =>
    intro at' g h1 h2 h3 h4 h5
    have h1 : at' = p := by omega
    subst h1
    refine ⟨g, ?_, h3, h4, h5⟩
    rw [q150_22]
    by_cases h0 : at' = 0
    · simp (disch := omega) only [↓reduceIte, Bool.false_eq_true, eq_self, mj_10, mj_01, mj_n10, mj_0n1, mj_1n1, mj_n11, mj_bi_some, mj_bv_some, mj_bj_some, mj_br_some, mj_r0, mj_r1, mj_q0, mj_q1, mj_b01, mj_q2, if_true, if_false, mj_it, mj_if, true_and, and_true, false_and, and_false, not_true_eq_false, not_false_eq_true, true_or, or_true, false_or, or_false, mj_nIle, mj_nIlt, mj_nIeq, mj_nI0, mj_nIc, mj_nIadd, mj_nIs, mj_ez, mj_ze, mj_eo, mj_ltz, mj_lez, mj_zlt, mj_olt, mj_lto, mj_leo, mj_ole, mj_nIn, mj_nnI, nl_2, nl_3, nl_4, nl_5, nl_6, nl_7, nl_8, nl_9, nl_10, nl_11, nl_12, nl_13, nl_14, nl_15, nl_16, nl_17, nl_18, nl_19, nl_20, nl_21, nl_22, nl_23, nl_24, nl_25, nl_26, nl_27, nl_28, nl_29, nl_30, nl_32, nl_33, nl_34, nl_35, nl_36, nl_37, nl_38, nl_39, nl_40, nl_41, nl_42, nl_43, nl_44, nl_45, nl_46, nl_47, nl_48, nl_49, nl_50, nl_51, nl_52, nl_53, nl_54, nl_55, nl_56, nl_57, nl_58, nl_59, nl_60, nl_61, nl_62, nl_64, nl_65, nl_66, nl_67, nl_68, nl_69, nl_92, nl_97, nl_99, nl_100, nl_122, nl_127, nl_128, nl_131, nl_132, nl_150, nl_200, nl_255, nl_256, nl_300, nl_342, nl_380, nl_381, nl_400, nl_401, nl_420, nl_500, nl_600, nl_800, nl_999, nl_1000, nl_1023, nl_1024, nl_1200, nl_2048, nl_2100, nl_4096, nl_9999, nl_10000, nl_10240, nl_999999, nl_1000000, if_pos, if_neg]
    · have hv : g 204 (at' - 1) ≤ g 3 i := by
        rw [h3 _ (by omega), h5 _ _ (by omega), Int32.le_iff_toInt_le, hS (at' - 1) (by omega)]; omega
      simp (disch := omega) only [↓reduceIte, Bool.false_eq_true, eq_self, mj_10, mj_01, mj_n10, mj_0n1, mj_1n1, mj_n11, mj_bi_some, mj_bv_some, mj_bj_some, mj_br_some, mj_r0, mj_r1, mj_q0, mj_q1, mj_b01, mj_q2, if_true, if_false, mj_it, mj_if, true_and, and_true, false_and, and_false, not_true_eq_false, not_false_eq_true, true_or, or_true, false_or, or_false, mj_nIle, mj_nIlt, mj_nIeq, mj_nI0, mj_nIc, mj_nIadd, mj_nIs, mj_ez, mj_ze, mj_eo, mj_ltz, mj_lez, mj_zlt, mj_olt, mj_lto, mj_leo, mj_ole, mj_nIn, mj_nnI, nl_2, nl_3, nl_4, nl_5, nl_6, nl_7, nl_8, nl_9, nl_10, nl_11, nl_12, nl_13, nl_14, nl_15, nl_16, nl_17, nl_18, nl_19, nl_20, nl_21, nl_22, nl_23, nl_24, nl_25, nl_26, nl_27, nl_28, nl_29, nl_30, nl_32, nl_33, nl_34, nl_35, nl_36, nl_37, nl_38, nl_39, nl_40, nl_41, nl_42, nl_43, nl_44, nl_45, nl_46, nl_47, nl_48, nl_49, nl_50, nl_51, nl_52, nl_53, nl_54, nl_55, nl_56, nl_57, nl_58, nl_59, nl_60, nl_61, nl_62, nl_64, nl_65, nl_66, nl_67, nl_68, nl_69, nl_92, nl_97, nl_99, nl_100, nl_122, nl_127, nl_128, nl_131, nl_132, nl_150, nl_200, nl_255, nl_256, nl_300, nl_342, nl_380, nl_381, nl_400, nl_401, nl_420, nl_500, nl_600, nl_800, nl_999, nl_1000, nl_1023, nl_1024, nl_1200, nl_2048, nl_2100, nl_4096, nl_9999, nl_10000, nl_10240, nl_999999, nl_1000000, if_pos, if_neg, mj_nIp, hv]
  | succ f ih =>
    intro at' g h1 h2 h3 h4 h5
    have hv : ¬ g 204 (at' - 1) ≤ g 3 i := by
      rw [h3 _ (by omega), h5 _ _ (by omega), Int32.le_iff_toInt_le, hS (at' - 1) (by omega)]; omega
    obtain ⟨g', e, r1, r2, r3⟩ := ih (at' - 1) (mj_u g 204 at' (g 204 (at' - 1))) (by omega) (by omega) (fun j hj => by rw [mj_u_pt (by omega)]; exact h3 j (by omega)) (fun j hj hj2 => by
      by_cases hja : j = at'
      · subst hja; rw [mj_u_eq]; exact h3 _ (by omega)
      · rw [mj_u_pt (by omega)]; exact h4 j (by omega) hj2) (fun a k ha => by rw [mj_u_pt (by omega)]; exact h5 a k ha)
    refine ⟨g', ?_, r1, r2, r3⟩
    rw [← e, q150_22]
    simp (disch := omega) only [↓reduceIte, Bool.false_eq_true, eq_self, mj_10, mj_01, mj_n10, mj_0n1, mj_1n1, mj_n11, mj_bi_some, mj_bv_some, mj_bj_some, mj_br_some, mj_r0, mj_r1, mj_q0, mj_q1, mj_b01, mj_q2, if_true, if_false, mj_it, mj_if, true_and, and_true, false_and, and_false, not_true_eq_false, not_false_eq_true, true_or, or_true, false_or, or_false, mj_nIle, mj_nIlt, mj_nIeq, mj_nI0, mj_nIc, mj_nIadd, mj_nIs, mj_ez, mj_ze, mj_eo, mj_ltz, mj_lez, mj_zlt, mj_olt, mj_lto, mj_leo, mj_ole, mj_nIn, mj_nnI, nl_2, nl_3, nl_4, nl_5, nl_6, nl_7, nl_8, nl_9, nl_10, nl_11, nl_12, nl_13, nl_14, nl_15, nl_16, nl_17, nl_18, nl_19, nl_20, nl_21, nl_22, nl_23, nl_24, nl_25, nl_26, nl_27, nl_28, nl_29, nl_30, nl_32, nl_33, nl_34, nl_35, nl_36, nl_37, nl_38, nl_39, nl_40, nl_41, nl_42, nl_43, nl_44, nl_45, nl_46, nl_47, nl_48, nl_49, nl_50, nl_51, nl_52, nl_53, nl_54, nl_55, nl_56, nl_57, nl_58, nl_59, nl_60, nl_61, nl_62, nl_64, nl_65, nl_66, nl_67, nl_68, nl_69, nl_92, nl_97, nl_99, nl_100, nl_122, nl_127, nl_128, nl_131, nl_132, nl_150, nl_200, nl_255, nl_256, nl_300, nl_342, nl_380, nl_381, nl_400, nl_401, nl_420, nl_500, nl_600, nl_800, nl_999, nl_1000, nl_1023, nl_1024, nl_1200, nl_2048, nl_2100, nl_4096, nl_9999, nl_10000, nl_10240, nl_999999, nl_1000000, if_pos, if_neg, mj_nIp, mj_nIm, hv]
theorem s_sort204 {n : Nat} (hn : n ≤ 10) : ∃ g, mj_dc mj_P E (d + 1) 150 [.ref 204, .ref 3, .int (nI n)] (mj_hw w c hi hl) = some (none, mj_hw w c g hl) ∧ ws_S (g 204) (hi 3) n ∧ ∀ a k, a ≠ 204 → g a k = hi a k := by
  rw [e150_1, q150_0]
  have key := lp_ex (fun i (s : Value × mj_HI) => mj_den mj_P E d 150 2 [.ref 204, .ref 3, .int (nI n), .int (nI i), s.1] [] (mj_hw w c s.2 hl)) (fun i s => (s.1 = .float 0 ∨ ∃ z : Int32, s.1 = .int z) ∧ ws_S (s.2 204) (hi 3) i ∧ ∀ a k, a ≠ 204 → s.2 a k = hi a k) n (fun i s hin hI => ?_) (.float 0, hi) ⟨Or.inl rfl, fun j hj => absurd hj (by omega), fun _ _ _ => rfl⟩
  · obtain ⟨⟨u, g⟩, e1, hu, hS, hf⟩ := key
    refine ⟨g, ?_, hS, hf⟩
    refine Eq.trans e1 ?_
    rcases hu with rfl | ⟨z, rfl⟩
    · show mj_den mj_P E d 150 2 [.ref 204, .ref 3, .int (nI n), .int (nI n), .float 0] [] (mj_hw w c g hl) = _
      rw [q150_2, if_pos (Int32.le_refl _), q150_68_1]
    · show mj_den mj_P E d 150 2 [.ref 204, .ref 3, .int (nI n), .int (nI n), .int z] [] (mj_hw w c g hl) = _
      rw [q150_2_1, if_pos (Int32.le_refl _), q150_68]
  · obtain ⟨u, g⟩ := s
    obtain ⟨hu, hS, hf⟩ := hI
    simp only at hu hS hf
    have hpi : ws_cle (hi 3) (hi 3 i).toInt i ≤ i := iv_cnt_bd _ _
    obtain ⟨g', e, r1, r2, r3⟩ := s_sh204 (E := E) (d := d) (w := w) (c := c) (hl := hl) (n := n) (by omega) hS rfl (i - ws_cle (hi 3) (hi 3 i).toInt i) i g (by omega) (Nat.le_refl _) (fun _ _ => rfl) (fun j h1 h2 => absurd h1 (by omega)) hf
    refine ⟨(.int (nI (ws_cle (hi 3) (hi 3 i).toInt i)), mj_u g' 204 (ws_cle (hi 3) (hi 3 i).toInt i) (hi 3 i)), ?_, Or.inr ⟨_, rfl⟩, ?_, fun a k ha => ?_⟩
    · have hA : mj_den mj_P E d 150 2 [.ref 204, .ref 3, .int (nI n), .int (nI i), u] [] (mj_hw w c g hl) = mj_den mj_P E d 150 22 [.ref 204, .ref 3, .int (nI n), .int (nI i), .int (nI i)] [] (mj_hw w c g hl) := by
        have h10 : Int32.ofNat 10 = nI 10 := rfl
        rcases hu with rfl | ⟨z, rfl⟩
        · rw [q150_2, h10]; simp (disch := omega) only [↓reduceIte, Bool.false_eq_true, eq_self, mj_10, mj_01, mj_n10, mj_0n1, mj_1n1, mj_n11, mj_bi_some, mj_bv_some, mj_bj_some, mj_br_some, mj_r0, mj_r1, mj_q0, mj_q1, mj_b01, mj_q2, if_true, if_false, mj_it, mj_if, true_and, and_true, false_and, and_false, not_true_eq_false, not_false_eq_true, true_or, or_true, false_or, or_false, mj_nIle, mj_nIlt, mj_nIeq, mj_nI0, mj_nIc, mj_nIadd, mj_nIs, mj_ez, mj_ze, mj_eo, mj_ltz, mj_lez, mj_zlt, mj_olt, mj_lto, mj_leo, mj_ole, mj_nIn, mj_nnI, nl_2, nl_3, nl_4, nl_5, nl_6, nl_7, nl_8, nl_9, nl_10, nl_11, nl_12, nl_13, nl_14, nl_15, nl_16, nl_17, nl_18, nl_19, nl_20, nl_21, nl_22, nl_23, nl_24, nl_25, nl_26, nl_27, nl_28, nl_29, nl_30, nl_32, nl_33, nl_34, nl_35, nl_36, nl_37, nl_38, nl_39, nl_40, nl_41, nl_42, nl_43, nl_44, nl_45, nl_46, nl_47, nl_48, nl_49, nl_50, nl_51, nl_52, nl_53, nl_54, nl_55, nl_56, nl_57, nl_58, nl_59, nl_60, nl_61, nl_62, nl_64, nl_65, nl_66, nl_67, nl_68, nl_69, nl_92, nl_97, nl_99, nl_100, nl_122, nl_127, nl_128, nl_131, nl_132, nl_150, nl_200, nl_255, nl_256, nl_300, nl_342, nl_380, nl_381, nl_400, nl_401, nl_420, nl_500, nl_600, nl_800, nl_999, nl_1000, nl_1023, nl_1024, nl_1200, nl_2048, nl_2100, nl_4096, nl_9999, nl_10000, nl_10240, nl_999999, nl_1000000, if_pos, if_neg]
        · rw [q150_2_1, h10]; simp (disch := omega) only [↓reduceIte, Bool.false_eq_true, eq_self, mj_10, mj_01, mj_n10, mj_0n1, mj_1n1, mj_n11, mj_bi_some, mj_bv_some, mj_bj_some, mj_br_some, mj_r0, mj_r1, mj_q0, mj_q1, mj_b01, mj_q2, if_true, if_false, mj_it, mj_if, true_and, and_true, false_and, and_false, not_true_eq_false, not_false_eq_true, true_or, or_true, false_or, or_false, mj_nIle, mj_nIlt, mj_nIeq, mj_nI0, mj_nIc, mj_nIadd, mj_nIs, mj_ez, mj_ze, mj_eo, mj_ltz, mj_lez, mj_zlt, mj_olt, mj_lto, mj_leo, mj_ole, mj_nIn, mj_nnI, nl_2, nl_3, nl_4, nl_5, nl_6, nl_7, nl_8, nl_9, nl_10, nl_11, nl_12, nl_13, nl_14, nl_15, nl_16, nl_17, nl_18, nl_19, nl_20, nl_21, nl_22, nl_23, nl_24, nl_25, nl_26, nl_27, nl_28, nl_29, nl_30, nl_32, nl_33, nl_34, nl_35, nl_36, nl_37, nl_38, nl_39, nl_40, nl_41, nl_42, nl_43, nl_44, nl_45, nl_46, nl_47, nl_48, nl_49, nl_50, nl_51, nl_52, nl_53, nl_54, nl_55, nl_56, nl_57, nl_58, nl_59, nl_60, nl_61, nl_62, nl_64, nl_65, nl_66, nl_67, nl_68, nl_69, nl_92, nl_97, nl_99, nl_100, nl_122, nl_127, nl_128, nl_131, nl_132, nl_150, nl_200, nl_255, nl_256, nl_300, nl_342, nl_380, nl_381, nl_400, nl_401, nl_420, nl_500, nl_600, nl_800, nl_999, nl_1000, nl_1023, nl_1024, nl_1200, nl_2048, nl_2100, nl_4096, nl_9999, nl_10000, nl_10240, nl_999999, nl_1000000, if_pos, if_neg]
      show mj_den mj_P E d 150 2 [.ref 204, .ref 3, .int (nI n), .int (nI i), u] [] (mj_hw w c g hl) = mj_den mj_P E d 150 2 [.ref 204, .ref 3, .int (nI n), .int (nI (i + 1)), .int (nI (ws_cle (hi 3) (hi 3 i).toInt i))] [] (mj_hw w c (mj_u g' 204 (ws_cle (hi 3) (hi 3 i).toInt i) (hi 3 i)) hl)
      have hg := r3 3 i (by omega)
      rw [hA, e, q150_55]
      simp (disch := omega) only [↓reduceIte, Bool.false_eq_true, eq_self, mj_10, mj_01, mj_n10, mj_0n1, mj_1n1, mj_n11, mj_bi_some, mj_bv_some, mj_bj_some, mj_br_some, mj_r0, mj_r1, mj_q0, mj_q1, mj_b01, mj_q2, if_true, if_false, mj_it, mj_if, true_and, and_true, false_and, and_false, not_true_eq_false, not_false_eq_true, true_or, or_true, false_or, or_false, mj_nIle, mj_nIlt, mj_nIeq, mj_nI0, mj_nIc, mj_nIadd, mj_nIs, mj_ez, mj_ze, mj_eo, mj_ltz, mj_lez, mj_zlt, mj_olt, mj_lto, mj_leo, mj_ole, mj_nIn, mj_nnI, nl_2, nl_3, nl_4, nl_5, nl_6, nl_7, nl_8, nl_9, nl_10, nl_11, nl_12, nl_13, nl_14, nl_15, nl_16, nl_17, nl_18, nl_19, nl_20, nl_21, nl_22, nl_23, nl_24, nl_25, nl_26, nl_27, nl_28, nl_29, nl_30, nl_32, nl_33, nl_34, nl_35, nl_36, nl_37, nl_38, nl_39, nl_40, nl_41, nl_42, nl_43, nl_44, nl_45, nl_46, nl_47, nl_48, nl_49, nl_50, nl_51, nl_52, nl_53, nl_54, nl_55, nl_56, nl_57, nl_58, nl_59, nl_60, nl_61, nl_62, nl_64, nl_65, nl_66, nl_67, nl_68, nl_69, nl_92, nl_97, nl_99, nl_100, nl_122, nl_127, nl_128, nl_131, nl_132, nl_150, nl_200, nl_255, nl_256, nl_300, nl_342, nl_380, nl_381, nl_400, nl_401, nl_420, nl_500, nl_600, nl_800, nl_999, nl_1000, nl_1023, nl_1024, nl_1200, nl_2048, nl_2100, nl_4096, nl_9999, nl_10000, nl_10240, nl_999999, nl_1000000, if_pos, if_neg, hg]
    · exact ws_ins hS rfl (fun j hj => by show mj_u g' 204 _ _ 204 j = _; rw [mj_u_pt (by omega)]; exact r1 j hj) (by show mj_u g' 204 _ _ 204 _ = _; rw [mj_u_eq]) (fun j h1 h2 => by show mj_u g' 204 _ _ 204 j = _; rw [mj_u_pt (by omega)]; exact r2 j h1 h2)
    · show mj_u g' 204 _ _ a k = _
      rw [mj_u_pt (by omega)]; exact r3 a k ha
theorem s_sh193 {S : Nat → Int32} {n i p : Nat} (hi9 : i < 12) (hS : ws_S S (hi 41) i) (hp : p = ws_cle (hi 41) (hi 41 i).toInt i) : ∀ (f at' : Nat) (g : mj_HI), at' = p + f → at' ≤ i → (∀ j, j < at' → g 193 j = S j) → (∀ j, at' < j → j ≤ i → g 193 j = S (j - 1)) → (∀ a k, a ≠ 193 → g a k = hi a k) → ∃ g', mj_den mj_P E d 150 22 [.ref 193, .ref 41, .int (nI n), .int (nI i), .int (nI at')] [] (mj_hw w c g hl) = mj_den mj_P E d 150 55 [.ref 193, .ref 41, .int (nI n), .int (nI i), .int (nI p)] [] (mj_hw w c g' hl) ∧ (∀ j, j < p → g' 193 j = S j) ∧ (∀ j, p < j → j ≤ i → g' 193 j = S (j - 1)) ∧ ∀ a k, a ≠ 193 → g' a k = hi a k := by
  intro f
  induction f with
  | zero =>
    intro at' g h1 h2 h3 h4 h5
    have h1 : at' = p := by omega
    subst h1
    refine ⟨g, ?_, h3, h4, h5⟩
    rw [q150_22_1]
    by_cases h0 : at' = 0
    · simp (disch := omega) only [↓reduceIte, Bool.false_eq_true, eq_self, mj_10, mj_01, mj_n10, mj_0n1, mj_1n1, mj_n11, mj_bi_some, mj_bv_some, mj_bj_some, mj_br_some, mj_r0, mj_r1, mj_q0, mj_q1, mj_b01, mj_q2, if_true, if_false, mj_it, mj_if, true_and, and_true, false_and, and_false, not_true_eq_false, not_false_eq_true, true_or, or_true, false_or, or_false, mj_nIle, mj_nIlt, mj_nIeq, mj_nI0, mj_nIc, mj_nIadd, mj_nIs, mj_ez, mj_ze, mj_eo, mj_ltz, mj_lez, mj_zlt, mj_olt, mj_lto, mj_leo, mj_ole, mj_nIn, mj_nnI, nl_2, nl_3, nl_4, nl_5, nl_6, nl_7, nl_8, nl_9, nl_10, nl_11, nl_12, nl_13, nl_14, nl_15, nl_16, nl_17, nl_18, nl_19, nl_20, nl_21, nl_22, nl_23, nl_24, nl_25, nl_26, nl_27, nl_28, nl_29, nl_30, nl_32, nl_33, nl_34, nl_35, nl_36, nl_37, nl_38, nl_39, nl_40, nl_41, nl_42, nl_43, nl_44, nl_45, nl_46, nl_47, nl_48, nl_49, nl_50, nl_51, nl_52, nl_53, nl_54, nl_55, nl_56, nl_57, nl_58, nl_59, nl_60, nl_61, nl_62, nl_64, nl_65, nl_66, nl_67, nl_68, nl_69, nl_92, nl_97, nl_99, nl_100, nl_122, nl_127, nl_128, nl_131, nl_132, nl_150, nl_200, nl_255, nl_256, nl_300, nl_342, nl_380, nl_381, nl_400, nl_401, nl_420, nl_500, nl_600, nl_800, nl_999, nl_1000, nl_1023, nl_1024, nl_1200, nl_2048, nl_2100, nl_4096, nl_9999, nl_10000, nl_10240, nl_999999, nl_1000000, if_pos, if_neg]
    · have hv : g 193 (at' - 1) ≤ g 41 i := by
        rw [h3 _ (by omega), h5 _ _ (by omega), Int32.le_iff_toInt_le, hS (at' - 1) (by omega)]; omega
      simp (disch := omega) only [↓reduceIte, Bool.false_eq_true, eq_self, mj_10, mj_01, mj_n10, mj_0n1, mj_1n1, mj_n11, mj_bi_some, mj_bv_some, mj_bj_some, mj_br_some, mj_r0, mj_r1, mj_q0, mj_q1, mj_b01, mj_q2, if_true, if_false, mj_it, mj_if, true_and, and_true, false_and, and_false, not_true_eq_false, not_false_eq_true, true_or, or_true, false_or, or_false, mj_nIle, mj_nIlt, mj_nIeq, mj_nI0, mj_nIc, mj_nIadd, mj_nIs, mj_ez, mj_ze, mj_eo, mj_ltz, mj_lez, mj_zlt, mj_olt, mj_lto, mj_leo, mj_ole, mj_nIn, mj_nnI, nl_2, nl_3, nl_4, nl_5, nl_6, nl_7, nl_8, nl_9, nl_10, nl_11, nl_12, nl_13, nl_14, nl_15, nl_16, nl_17, nl_18, nl_19, nl_20, nl_21, nl_22, nl_23, nl_24, nl_25, nl_26, nl_27, nl_28, nl_29, nl_30, nl_32, nl_33, nl_34, nl_35, nl_36, nl_37, nl_38, nl_39, nl_40, nl_41, nl_42, nl_43, nl_44, nl_45, nl_46, nl_47, nl_48, nl_49, nl_50, nl_51, nl_52, nl_53, nl_54, nl_55, nl_56, nl_57, nl_58, nl_59, nl_60, nl_61, nl_62, nl_64, nl_65, nl_66, nl_67, nl_68, nl_69, nl_92, nl_97, nl_99, nl_100, nl_122, nl_127, nl_128, nl_131, nl_132, nl_150, nl_200, nl_255, nl_256, nl_300, nl_342, nl_380, nl_381, nl_400, nl_401, nl_420, nl_500, nl_600, nl_800, nl_999, nl_1000, nl_1023, nl_1024, nl_1200, nl_2048, nl_2100, nl_4096, nl_9999, nl_10000, nl_10240, nl_999999, nl_1000000, if_pos, if_neg, mj_nIp, hv]
  | succ f ih =>
    intro at' g h1 h2 h3 h4 h5
    have hv : ¬ g 193 (at' - 1) ≤ g 41 i := by
      rw [h3 _ (by omega), h5 _ _ (by omega), Int32.le_iff_toInt_le, hS (at' - 1) (by omega)]; omega
    obtain ⟨g', e, r1, r2, r3⟩ := ih (at' - 1) (mj_u g 193 at' (g 193 (at' - 1))) (by omega) (by omega) (fun j hj => by rw [mj_u_pt (by omega)]; exact h3 j (by omega)) (fun j hj hj2 => by
      by_cases hja : j = at'
      · subst hja; rw [mj_u_eq]; exact h3 _ (by omega)
      · rw [mj_u_pt (by omega)]; exact h4 j (by omega) hj2) (fun a k ha => by rw [mj_u_pt (by omega)]; exact h5 a k ha)
    refine ⟨g', ?_, r1, r2, r3⟩
    rw [← e, q150_22_1]
    simp (disch := omega) only [↓reduceIte, Bool.false_eq_true, eq_self, mj_10, mj_01, mj_n10, mj_0n1, mj_1n1, mj_n11, mj_bi_some, mj_bv_some, mj_bj_some, mj_br_some, mj_r0, mj_r1, mj_q0, mj_q1, mj_b01, mj_q2, if_true, if_false, mj_it, mj_if, true_and, and_true, false_and, and_false, not_true_eq_false, not_false_eq_true, true_or, or_true, false_or, or_false, mj_nIle, mj_nIlt, mj_nIeq, mj_nI0, mj_nIc, mj_nIadd, mj_nIs, mj_ez, mj_ze, mj_eo, mj_ltz, mj_lez, mj_zlt, mj_olt, mj_lto, mj_leo, mj_ole, mj_nIn, mj_nnI, nl_2, nl_3, nl_4, nl_5, nl_6, nl_7, nl_8, nl_9, nl_10, nl_11, nl_12, nl_13, nl_14, nl_15, nl_16, nl_17, nl_18, nl_19, nl_20, nl_21, nl_22, nl_23, nl_24, nl_25, nl_26, nl_27, nl_28, nl_29, nl_30, nl_32, nl_33, nl_34, nl_35, nl_36, nl_37, nl_38, nl_39, nl_40, nl_41, nl_42, nl_43, nl_44, nl_45, nl_46, nl_47, nl_48, nl_49, nl_50, nl_51, nl_52, nl_53, nl_54, nl_55, nl_56, nl_57, nl_58, nl_59, nl_60, nl_61, nl_62, nl_64, nl_65, nl_66, nl_67, nl_68, nl_69, nl_92, nl_97, nl_99, nl_100, nl_122, nl_127, nl_128, nl_131, nl_132, nl_150, nl_200, nl_255, nl_256, nl_300, nl_342, nl_380, nl_381, nl_400, nl_401, nl_420, nl_500, nl_600, nl_800, nl_999, nl_1000, nl_1023, nl_1024, nl_1200, nl_2048, nl_2100, nl_4096, nl_9999, nl_10000, nl_10240, nl_999999, nl_1000000, if_pos, if_neg, mj_nIp, mj_nIm, hv]
theorem s_sort193 {n : Nat} (hn : n ≤ 12) : ∃ g, mj_dc mj_P E (d + 1) 150 [.ref 193, .ref 41, .int (nI n)] (mj_hw w c hi hl) = some (none, mj_hw w c g hl) ∧ ws_S (g 193) (hi 41) n ∧ ∀ a k, a ≠ 193 → g a k = hi a k := by
  rw [e150, q150_0_1]
  have key := lp_ex (fun i (s : Value × mj_HI) => mj_den mj_P E d 150 2 [.ref 193, .ref 41, .int (nI n), .int (nI i), s.1] [] (mj_hw w c s.2 hl)) (fun i s => (s.1 = .float 0 ∨ ∃ z : Int32, s.1 = .int z) ∧ ws_S (s.2 193) (hi 41) i ∧ ∀ a k, a ≠ 193 → s.2 a k = hi a k) n (fun i s hin hI => ?_) (.float 0, hi) ⟨Or.inl rfl, fun j hj => absurd hj (by omega), fun _ _ _ => rfl⟩
  · obtain ⟨⟨u, g⟩, e1, hu, hS, hf⟩ := key
    refine ⟨g, ?_, hS, hf⟩
    refine Eq.trans e1 ?_
    rcases hu with rfl | ⟨z, rfl⟩
    · show mj_den mj_P E d 150 2 [.ref 193, .ref 41, .int (nI n), .int (nI n), .float 0] [] (mj_hw w c g hl) = _
      rw [q150_2_2, if_pos (Int32.le_refl _), q150_68_3]
    · show mj_den mj_P E d 150 2 [.ref 193, .ref 41, .int (nI n), .int (nI n), .int z] [] (mj_hw w c g hl) = _
      rw [q150_2_3, if_pos (Int32.le_refl _), q150_68_2]
  · obtain ⟨u, g⟩ := s
    obtain ⟨hu, hS, hf⟩ := hI
    simp only at hu hS hf
    have hpi : ws_cle (hi 41) (hi 41 i).toInt i ≤ i := iv_cnt_bd _ _
    obtain ⟨g', e, r1, r2, r3⟩ := s_sh193 (E := E) (d := d) (w := w) (c := c) (hl := hl) (n := n) (by omega) hS rfl (i - ws_cle (hi 41) (hi 41 i).toInt i) i g (by omega) (Nat.le_refl _) (fun _ _ => rfl) (fun j h1 h2 => absurd h1 (by omega)) hf
    refine ⟨(.int (nI (ws_cle (hi 41) (hi 41 i).toInt i)), mj_u g' 193 (ws_cle (hi 41) (hi 41 i).toInt i) (hi 41 i)), ?_, Or.inr ⟨_, rfl⟩, ?_, fun a k ha => ?_⟩
    · have hA : mj_den mj_P E d 150 2 [.ref 193, .ref 41, .int (nI n), .int (nI i), u] [] (mj_hw w c g hl) = mj_den mj_P E d 150 22 [.ref 193, .ref 41, .int (nI n), .int (nI i), .int (nI i)] [] (mj_hw w c g hl) := by
        have h10 : Int32.ofNat 12 = nI 12 := rfl
        rcases hu with rfl | ⟨z, rfl⟩
        · rw [q150_2_2, h10]; simp (disch := omega) only [↓reduceIte, Bool.false_eq_true, eq_self, mj_10, mj_01, mj_n10, mj_0n1, mj_1n1, mj_n11, mj_bi_some, mj_bv_some, mj_bj_some, mj_br_some, mj_r0, mj_r1, mj_q0, mj_q1, mj_b01, mj_q2, if_true, if_false, mj_it, mj_if, true_and, and_true, false_and, and_false, not_true_eq_false, not_false_eq_true, true_or, or_true, false_or, or_false, mj_nIle, mj_nIlt, mj_nIeq, mj_nI0, mj_nIc, mj_nIadd, mj_nIs, mj_ez, mj_ze, mj_eo, mj_ltz, mj_lez, mj_zlt, mj_olt, mj_lto, mj_leo, mj_ole, mj_nIn, mj_nnI, nl_2, nl_3, nl_4, nl_5, nl_6, nl_7, nl_8, nl_9, nl_10, nl_11, nl_12, nl_13, nl_14, nl_15, nl_16, nl_17, nl_18, nl_19, nl_20, nl_21, nl_22, nl_23, nl_24, nl_25, nl_26, nl_27, nl_28, nl_29, nl_30, nl_32, nl_33, nl_34, nl_35, nl_36, nl_37, nl_38, nl_39, nl_40, nl_41, nl_42, nl_43, nl_44, nl_45, nl_46, nl_47, nl_48, nl_49, nl_50, nl_51, nl_52, nl_53, nl_54, nl_55, nl_56, nl_57, nl_58, nl_59, nl_60, nl_61, nl_62, nl_64, nl_65, nl_66, nl_67, nl_68, nl_69, nl_92, nl_97, nl_99, nl_100, nl_122, nl_127, nl_128, nl_131, nl_132, nl_150, nl_200, nl_255, nl_256, nl_300, nl_342, nl_380, nl_381, nl_400, nl_401, nl_420, nl_500, nl_600, nl_800, nl_999, nl_1000, nl_1023, nl_1024, nl_1200, nl_2048, nl_2100, nl_4096, nl_9999, nl_10000, nl_10240, nl_999999, nl_1000000, if_pos, if_neg]
        · rw [q150_2_3, h10]; simp (disch := omega) only [↓reduceIte, Bool.false_eq_true, eq_self, mj_10, mj_01, mj_n10, mj_0n1, mj_1n1, mj_n11, mj_bi_some, mj_bv_some, mj_bj_some, mj_br_some, mj_r0, mj_r1, mj_q0, mj_q1, mj_b01, mj_q2, if_true, if_false, mj_it, mj_if, true_and, and_true, false_and, and_false, not_true_eq_false, not_false_eq_true, true_or, or_true, false_or, or_false, mj_nIle, mj_nIlt, mj_nIeq, mj_nI0, mj_nIc, mj_nIadd, mj_nIs, mj_ez, mj_ze, mj_eo, mj_ltz, mj_lez, mj_zlt, mj_olt, mj_lto, mj_leo, mj_ole, mj_nIn, mj_nnI, nl_2, nl_3, nl_4, nl_5, nl_6, nl_7, nl_8, nl_9, nl_10, nl_11, nl_12, nl_13, nl_14, nl_15, nl_16, nl_17, nl_18, nl_19, nl_20, nl_21, nl_22, nl_23, nl_24, nl_25, nl_26, nl_27, nl_28, nl_29, nl_30, nl_32, nl_33, nl_34, nl_35, nl_36, nl_37, nl_38, nl_39, nl_40, nl_41, nl_42, nl_43, nl_44, nl_45, nl_46, nl_47, nl_48, nl_49, nl_50, nl_51, nl_52, nl_53, nl_54, nl_55, nl_56, nl_57, nl_58, nl_59, nl_60, nl_61, nl_62, nl_64, nl_65, nl_66, nl_67, nl_68, nl_69, nl_92, nl_97, nl_99, nl_100, nl_122, nl_127, nl_128, nl_131, nl_132, nl_150, nl_200, nl_255, nl_256, nl_300, nl_342, nl_380, nl_381, nl_400, nl_401, nl_420, nl_500, nl_600, nl_800, nl_999, nl_1000, nl_1023, nl_1024, nl_1200, nl_2048, nl_2100, nl_4096, nl_9999, nl_10000, nl_10240, nl_999999, nl_1000000, if_pos, if_neg]
      show mj_den mj_P E d 150 2 [.ref 193, .ref 41, .int (nI n), .int (nI i), u] [] (mj_hw w c g hl) = mj_den mj_P E d 150 2 [.ref 193, .ref 41, .int (nI n), .int (nI (i + 1)), .int (nI (ws_cle (hi 41) (hi 41 i).toInt i))] [] (mj_hw w c (mj_u g' 193 (ws_cle (hi 41) (hi 41 i).toInt i) (hi 41 i)) hl)
      have hg := r3 41 i (by omega)
      rw [hA, e, q150_55_1]
      simp (disch := omega) only [↓reduceIte, Bool.false_eq_true, eq_self, mj_10, mj_01, mj_n10, mj_0n1, mj_1n1, mj_n11, mj_bi_some, mj_bv_some, mj_bj_some, mj_br_some, mj_r0, mj_r1, mj_q0, mj_q1, mj_b01, mj_q2, if_true, if_false, mj_it, mj_if, true_and, and_true, false_and, and_false, not_true_eq_false, not_false_eq_true, true_or, or_true, false_or, or_false, mj_nIle, mj_nIlt, mj_nIeq, mj_nI0, mj_nIc, mj_nIadd, mj_nIs, mj_ez, mj_ze, mj_eo, mj_ltz, mj_lez, mj_zlt, mj_olt, mj_lto, mj_leo, mj_ole, mj_nIn, mj_nnI, nl_2, nl_3, nl_4, nl_5, nl_6, nl_7, nl_8, nl_9, nl_10, nl_11, nl_12, nl_13, nl_14, nl_15, nl_16, nl_17, nl_18, nl_19, nl_20, nl_21, nl_22, nl_23, nl_24, nl_25, nl_26, nl_27, nl_28, nl_29, nl_30, nl_32, nl_33, nl_34, nl_35, nl_36, nl_37, nl_38, nl_39, nl_40, nl_41, nl_42, nl_43, nl_44, nl_45, nl_46, nl_47, nl_48, nl_49, nl_50, nl_51, nl_52, nl_53, nl_54, nl_55, nl_56, nl_57, nl_58, nl_59, nl_60, nl_61, nl_62, nl_64, nl_65, nl_66, nl_67, nl_68, nl_69, nl_92, nl_97, nl_99, nl_100, nl_122, nl_127, nl_128, nl_131, nl_132, nl_150, nl_200, nl_255, nl_256, nl_300, nl_342, nl_380, nl_381, nl_400, nl_401, nl_420, nl_500, nl_600, nl_800, nl_999, nl_1000, nl_1023, nl_1024, nl_1200, nl_2048, nl_2100, nl_4096, nl_9999, nl_10000, nl_10240, nl_999999, nl_1000000, if_pos, if_neg, hg]
    · exact ws_ins hS rfl (fun j hj => by show mj_u g' 193 _ _ 193 j = _; rw [mj_u_pt (by omega)]; exact r1 j hj) (by show mj_u g' 193 _ _ 193 _ = _; rw [mj_u_eq]) (fun j h1 h2 => by show mj_u g' 193 _ _ 193 j = _; rw [mj_u_pt (by omega)]; exact r2 j h1 h2)
    · show mj_u g' 193 _ _ a k = _
      rw [mj_u_pt (by omega)]; exact r3 a k ha
end MJ51
