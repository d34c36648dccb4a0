theorem wu_pn {f t : Nat → Nat} {p n W : Nat} (hf : ∀ i, i < p → f i < n) : wc_u (fun k => wv_pn f t (2 ^ k) p) W n = wv_pn f t W p := by
  refine Nat.eq_of_testBit_eq (fun j => ?_)
  have e : (wc_u (fun k => wv_pn f t (2 ^ k) p) W n).testBit j = true ↔ (wv_pn f t W p).testBit j = true := by
    rw [wc_u_bit, wv_pn_bit]
    constructor
    · rintro ⟨k, h1, h2, h3⟩
      obtain ⟨i, h4, h5, h6⟩ := (wv_pn_bit f t (2 ^ k) j p).mp h3
      rw [Nat.testBit_two_pow] at h5
      have := of_decide_eq_true h5
      exact ⟨i, h4, by rw [← this]; exact h2, h6⟩
    · rintro ⟨i, h1, h2, h3⟩
      exact ⟨f i, hf i h1, h2, (wv_pn_bit f t (2 ^ f i) j p).mpr ⟨i, h1, by rw [Nat.testBit_two_pow]; exact decide_eq_true rfl, h3⟩⟩
  cases h1 : (wc_u (fun k => wv_pn f t (2 ^ k) p) W n).testBit j <;> cases h2 : (wv_pn f t W p).testBit j
  · rfl
  · rw [h1, h2] at e; exact absurd (e.mpr rfl) (by decide)
  · rw [h1, h2] at e; exact absurd (e.mp rfl) (by decide)
  · rfl
section MJ82
variable {E : mj_E} {d d' w c : Nat} {hl : Nat → Nat → Int64}
/-- the reference's pinched set -/
theorem s_dragU {f t : Nat → Nat} {p n S W : Nat} {v3 : Int32} {hm : mj_HI} (n10 : n ≤ 10) (hW : W < 1024) (m6 : hm 205 6 = nI n) (hf : ∀ i, i < p → f i < n) (ht : ∀ i, i < p → t i < 10) (hM : ∀ k, k < 10 → hm 225 k = nI (wv_pn f t (2 ^ k) p)) : mj_dc mj_P E (d' + 2) 224 [.ref 205, .int (nI S), .int (nI W), .int v3] (mj_hw w c hm hl) = mj_den mj_P E (d' + 1) 224 56 [.ref 205, .int (nI S), .int (nI W), .int v3, .int (nI (wv_pn f t W p)), .int (nI (mj_df (wv_pn f t W p &&& S) W)), .int 0] [] (mj_hw w c hm hl) := by
  rw [e224, q224_0]
  refine (lp_up (fun j => mj_den mj_P E (d' + 1) 224 6 [.ref 205, .int (nI S), .int (nI W), .int v3, .int (nI (wc_u (fun k => wv_pn f t (2 ^ k) p) W j)), .int (nI j), .float 0] [] (mj_hw w c hm hl)) n (fun j hj => ?_)).trans ?_
  · show mj_den mj_P E (d' + 1) 224 6 [.ref 205, .int (nI S), .int (nI W), .int v3, .int (nI (wc_u (fun k => wv_pn f t (2 ^ k) p) W j)), .int (nI j), .float 0] [] (mj_hw w c hm hl) = mj_den mj_P E (d' + 1) 224 6 [.ref 205, .int (nI S), .int (nI W), .int v3, .int (nI (wc_u (fun k => wv_pn f t (2 ^ k) p) W (j + 1))), .int (nI (j + 1)), .float 0] [] (mj_hw w c hm hl)
    have hMj := hM j (by omega)
    rw [q224_6, wc_u_s]
    by_cases hb : W.testBit j = true
    · simp (disch := omega) only [↓reduceIte, Bool.false_eq_true, eq_self, mj_10, mj_01, mj_n10, mj_0n1, mj_1n1, mj_n11, mj_bi_some, mj_bv_some, mj_bj_some, mj_br_some, mj_r0, mj_r1, mj_q0, mj_q1, mj_b01, mj_q2, if_true, if_false, mj_it, mj_if, true_and, and_true, false_and, and_false, not_true_eq_false, not_false_eq_true, true_or, or_true, false_or, or_false, mj_nIle, mj_nIlt, mj_nIeq, mj_nI0, mj_nIc, mj_nIadd, mj_nIs, mj_ez, mj_ze, mj_eo, mj_ltz, mj_lez, mj_zlt, mj_olt, mj_lto, mj_leo, mj_ole, mj_nIn, mj_nnI, nl_2, nl_3, nl_4, nl_5, nl_6, nl_7, nl_8, nl_9, nl_10, nl_11, nl_12, nl_13, nl_14, nl_15, nl_16, nl_17, nl_18, nl_19, nl_20, nl_21, nl_22, nl_23, nl_24, nl_25, nl_26, nl_27, nl_28, nl_29, nl_30, nl_32, nl_33, nl_34, nl_35, nl_36, nl_37, nl_38, nl_39, nl_40, nl_41, nl_42, nl_43, nl_44, nl_45, nl_46, nl_47, nl_48, nl_49, nl_50, nl_51, nl_52, nl_53, nl_54, nl_55, nl_56, nl_57, nl_58, nl_59, nl_60, nl_61, nl_62, nl_64, nl_65, nl_66, nl_67, nl_68, nl_69, nl_92, nl_97, nl_99, nl_100, nl_122, nl_127, nl_128, nl_131, nl_132, nl_150, nl_200, nl_255, nl_256, nl_300, nl_342, nl_380, nl_381, nl_400, nl_401, nl_420, nl_500, nl_600, nl_800, nl_999, nl_1000, nl_1023, nl_1024, nl_1200, nl_2048, nl_2100, nl_4096, nl_9999, nl_10000, nl_10240, nl_999999, nl_1000000, if_pos, if_neg, m6, s_hM, hb, q224_22, hMj, q224_37, bx_or]
    · simp (disch := omega) only [↓reduceIte, Bool.false_eq_true, eq_self, mj_10, mj_01, mj_n10, mj_0n1, mj_1n1, mj_n11, mj_bi_some, mj_bv_some, mj_bj_some, mj_br_some, mj_r0, mj_r1, mj_q0, mj_q1, mj_b01, mj_q2, if_true, if_false, mj_it, mj_if, true_and, and_true, false_and, and_false, not_true_eq_false, not_false_eq_true, true_or, or_true, false_or, or_false, mj_nIle, mj_nIlt, mj_nIeq, mj_nI0, mj_nIc, mj_nIadd, mj_nIs, mj_ez, mj_ze, mj_eo, mj_ltz, mj_lez, mj_zlt, mj_olt, mj_lto, mj_leo, mj_ole, mj_nIn, mj_nnI, nl_2, nl_3, nl_4, nl_5, nl_6, nl_7, nl_8, nl_9, nl_10, nl_11, nl_12, nl_13, nl_14, nl_15, nl_16, nl_17, nl_18, nl_19, nl_20, nl_21, nl_22, nl_23, nl_24, nl_25, nl_26, nl_27, nl_28, nl_29, nl_30, nl_32, nl_33, nl_34, nl_35, nl_36, nl_37, nl_38, nl_39, nl_40, nl_41, nl_42, nl_43, nl_44, nl_45, nl_46, nl_47, nl_48, nl_49, nl_50, nl_51, nl_52, nl_53, nl_54, nl_55, nl_56, nl_57, nl_58, nl_59, nl_60, nl_61, nl_62, nl_64, nl_65, nl_66, nl_67, nl_68, nl_69, nl_92, nl_97, nl_99, nl_100, nl_122, nl_127, nl_128, nl_131, nl_132, nl_150, nl_200, nl_255, nl_256, nl_300, nl_342, nl_380, nl_381, nl_400, nl_401, nl_420, nl_500, nl_600, nl_800, nl_999, nl_1000, nl_1023, nl_1024, nl_1200, nl_2048, nl_2100, nl_4096, nl_9999, nl_10000, nl_10240, nl_999999, nl_1000000, if_pos, if_neg, m6, s_hM, hb, q224_22, q224_37, Nat.or_zero]
  · show mj_den mj_P E (d' + 1) 224 6 [.ref 205, .int (nI S), .int (nI W), .int v3, .int (nI (wc_u (fun k => wv_pn f t (2 ^ k) p) W n)), .int (nI n), .float 0] [] (mj_hw w c hm hl) = _
    rw [wu_pn hf, q224_6, m6, if_pos (Int32.le_refl _), q224_43, bx_and, bx_df]
/-- the dragged ones into the book -/
theorem s_dragN {n l S W D : Nat} {wd v4 : Int32} (n10 : n ≤ 10) (hD : D < 4096) (hr : mj_Rm w c 2) : ∀ (cnt i : Nat) (hx : mj_HI), i + cnt = n → hx 2 0 = nI n → (∃ b, b ≤ 150 ∧ hx 2 6 = nI b) → ∃ hx', mj_den mj_P E (d + 5) 3 25 [.ref 188, .ref 1, .ref 2, .int (nI S), .int (nI W), .int wd, .int 0, .int (nI D), .int (nI i)] [] (mj_hw w c hx hl) = mj_den mj_P E (d + 5) 3 64 [.ref 188, .ref 1, .ref 2, .int (nI S), .int (nI W), .int wd, .int 0, .int (nI D), .int (nI n)] [] (mj_hw w c hx' hl) ∧ au_X 2 hx hx' ∧ (∀ a k, a ≠ 2 → ¬ (42 ≤ a ∧ a ≤ 45) → hx' a k = hx a k) ∧ (∀ k, k ≠ 6 → hx' 2 k = hx 2 k) ∧ (∃ b, b ≤ 150 ∧ hx' 2 6 = nI b) ∧ ∀ hm, hm 205 5 = 0 → hm 205 6 = nI n → au 2 n l hx hm → ∃ hm', mj_den mj_P E (d' + 6) 224 56 [.ref 205, .int (nI S), .int (nI W), .int wd, .int v4, .int (nI D), .int (nI i)] [] (mj_hw w c hm hl) = some (some (.int (nI D)), mj_hw w c hm' hl) ∧ au_N hm hm' ∧ au 2 n l hx' hm' := by
  intro cnt
  induction cnt with
  | zero =>
    intro i hx hin h0 hb
    have hin : i = n := by omega
    subst hin
    refine ⟨hx, ?_, fun _ _ _ _ _ _ _ => rfl, fun _ _ _ _ => rfl, fun _ _ => rfl, hb, fun hm m5 m6 q => ⟨hm, ?_, fun _ _ _ _ => rfl, q⟩⟩
    · rw [g3_25 hr, h0, if_pos (Int32.le_refl _)]
    · rw [q224_56, m6, if_pos (Int32.le_refl _), q224_90]
  | succ cnt ih =>
    intro i hx hin h0 hb
    have hle : ¬ nI n ≤ nI i := by rw [mj_nIle (by omega) (by omega)]; omega
    by_cases hbit : D.testBit i = true
    · obtain ⟨g, n1, n2, n3, n4, n6, _, n5⟩ := s_note (E := E) (d := d + 4) (d' := d' + 5) (w := w) (c := c) (hl := hl) (n := n) (l := l) (hx := hx) hb 1 (nI i) wd
      obtain ⟨hx', e1, e2, e3, e4, e5, e6⟩ := ih (i + 1) g (by omega) (by rw [n4 _ (by omega)]; exact h0) n6
      refine ⟨hx', ?_, au_X_t n2 e2, fun a k z1 z2 => by rw [e3 _ _ z1 z2, n3 _ _ z1 z2], fun k z => by rw [e4 _ z, n4 _ z], e5, fun hm m5 m6 q => ?_⟩
      · rw [g3_25 hr, h0, if_neg hle, if_neg (by decide), s_hX (d := d + 4) (by omega) (by omega), mj_bi_some, g3_46 hr, hbit, if_neg (by decide), n1, mj_bv_some, g3_58 hr, mj_nIs]; exact e1
      · obtain ⟨f, f1, f2, f3⟩ := n5 hm m5 q
        obtain ⟨hm', c1, c2, c3⟩ := e6 f (by rw [f2 _ _ (by omega) (by omega)]; exact m5) (by rw [f2 _ _ (by omega) (by omega)]; exact m6) f3
        refine ⟨hm', ?_, au_N_t f2 c2, c3⟩
        rw [q224_56, m6, if_neg hle, s_hM (d := d' + 5) (by omega) (by omega), mj_bi_some, q224_73, hbit, if_neg (by decide), f1, mj_bv_some, q224_84, mj_nIs]; exact c1
    · have hb0 : mj_b (D.testBit i = true) = 0 := if_neg hbit
      obtain ⟨hx', e1, e2, e3, e4, e5, e6⟩ := ih (i + 1) hx (by omega) h0 hb
      refine ⟨hx', ?_, e2, e3, e4, e5, fun hm m5 m6 q => ?_⟩
      · rw [g3_25 hr, h0, if_neg hle, if_neg (by decide), s_hX (d := d + 4) (by omega) (by omega), mj_bi_some, g3_46 hr, hb0, if_pos rfl, g3_58 hr, mj_nIs]; exact e1
      · obtain ⟨hm', c1, c2, c3⟩ := e6 hm m5 m6 q
        refine ⟨hm', ?_, c2, c3⟩
        rw [q224_56, m6, if_neg hle, s_hM (d := d' + 5) (by omega) (by omega), mj_bi_some, q224_73, hb0, if_pos rfl, q224_84, mj_nIs]; exact c1
/-- in a thought nothing is noted -/
theorem s_dragT {n S W D : Nat} {wd v4 : Int32} {hm : mj_HI} (n10 : n ≤ 10) (hD : D < 4096) (m5 : ¬ hm 205 5 = 0 ∨ D = 0) (m6 : hm 205 6 = nI n) : mj_den mj_P E (d' + 2) 224 56 [.ref 205, .int (nI S), .int (nI W), .int wd, .int v4, .int (nI D), .int 0] [] (mj_hw w c hm hl) = some (some (.int (nI D)), mj_hw w c hm hl) := by
  refine (lp_up (fun j => mj_den mj_P E (d' + 2) 224 56 [.ref 205, .int (nI S), .int (nI W), .int wd, .int v4, .int (nI D), .int (nI j)] [] (mj_hw w c hm hl)) n (fun j hj => ?_)).trans ?_
  · show mj_den mj_P E (d' + 2) 224 56 [.ref 205, .int (nI S), .int (nI W), .int wd, .int v4, .int (nI D), .int (nI j)] [] (mj_hw w c hm hl) = mj_den mj_P E (d' + 2) 224 56 [.ref 205, .int (nI S), .int (nI W), .int wd, .int v4, .int (nI D), .int (nI (j + 1))] [] (mj_hw w c hm hl)
    rw [q224_56]
    by_cases hb : D.testBit j = true
    · have m5 := m5.resolve_right (fun z => by rw [z, Nat.zero_testBit] at hb; exact absurd hb (by decide))
      simp (disch := omega) only [↓reduceIte, Bool.false_eq_true, eq_self, mj_10, mj_01, mj_n10, mj_0n1, mj_1n1, mj_n11, mj_bi_some, mj_bv_some, mj_bj_some, mj_br_some, mj_r0, mj_r1, mj_q0, mj_q1, mj_b01, mj_q2, if_true, if_false, mj_it, mj_if, true_and, and_true, false_and, and_false, not_true_eq_false, not_false_eq_true, true_or, or_true, false_or, or_false, mj_nIle, mj_nIlt, mj_nIeq, mj_nI0, mj_nIc, mj_nIadd, mj_nIs, mj_ez, mj_ze, mj_eo, mj_ltz, mj_lez, mj_zlt, mj_olt, mj_lto, mj_leo, mj_ole, mj_nIn, mj_nnI, nl_2, nl_3, nl_4, nl_5, nl_6, nl_7, nl_8, nl_9, nl_10, nl_11, nl_12, nl_13, nl_14, nl_15, nl_16, nl_17, nl_18, nl_19, nl_20, nl_21, nl_22, nl_23, nl_24, nl_25, nl_26, nl_27, nl_28, nl_29, nl_30, nl_32, nl_33, nl_34, nl_35, nl_36, nl_37, nl_38, nl_39, nl_40, nl_41, nl_42, nl_43, nl_44, nl_45, nl_46, nl_47, nl_48, nl_49, nl_50, nl_51, nl_52, nl_53, nl_54, nl_55, nl_56, nl_57, nl_58, nl_59, nl_60, nl_61, nl_62, nl_64, nl_65, nl_66, nl_67, nl_68, nl_69, nl_92, nl_97, nl_99, nl_100, nl_122, nl_127, nl_128, nl_131, nl_132, nl_150, nl_200, nl_255, nl_256, nl_300, nl_342, nl_380, nl_381, nl_400, nl_401, nl_420, nl_500, nl_600, nl_800, nl_999, nl_1000, nl_1023, nl_1024, nl_1200, nl_2048, nl_2100, nl_4096, nl_9999, nl_10000, nl_10240, nl_999999, nl_1000000, if_pos, if_neg, m6, s_hM, hb, q224_73, e220, q220_0, q220_19, m5, q224_84]
    · simp (disch := omega) only [↓reduceIte, Bool.false_eq_true, eq_self, mj_10, mj_01, mj_n10, mj_0n1, mj_1n1, mj_n11, mj_bi_some, mj_bv_some, mj_bj_some, mj_br_some, mj_r0, mj_r1, mj_q0, mj_q1, mj_b01, mj_q2, if_true, if_false, mj_it, mj_if, true_and, and_true, false_and, and_false, not_true_eq_false, not_false_eq_true, true_or, or_true, false_or, or_false, mj_nIle, mj_nIlt, mj_nIeq, mj_nI0, mj_nIc, mj_nIadd, mj_nIs, mj_ez, mj_ze, mj_eo, mj_ltz, mj_lez, mj_zlt, mj_olt, mj_lto, mj_leo, mj_ole, mj_nIn, mj_nnI, nl_2, nl_3, nl_4, nl_5, nl_6, nl_7, nl_8, nl_9, nl_10, nl_11, nl_12, nl_13, nl_14, nl_15, nl_16, nl_17, nl_18, nl_19, nl_20, nl_21, nl_22, nl_23, nl_24, nl_25, nl_26, nl_27, nl_28, nl_29, nl_30, nl_32, nl_33, nl_34, nl_35, nl_36, nl_37, nl_38, nl_39, nl_40, nl_41, nl_42, nl_43, nl_44, nl_45, nl_46, nl_47, nl_48, nl_49, nl_50, nl_51, nl_52, nl_53, nl_54, nl_55, nl_56, nl_57, nl_58, nl_59, nl_60, nl_61, nl_62, nl_64, nl_65, nl_66, nl_67, nl_68, nl_69, nl_92, nl_97, nl_99, nl_100, nl_122, nl_127, nl_128, nl_131, nl_132, nl_150, nl_200, nl_255, nl_256, nl_300, nl_342, nl_380, nl_381, nl_400, nl_401, nl_420, nl_500, nl_600, nl_800, nl_999, nl_1000, nl_1023, nl_1024, nl_1200, nl_2048, nl_2100, nl_4096, nl_9999, nl_10000, nl_10240, nl_999999, nl_1000000, if_pos, if_neg, m6, s_hM, hb, q224_73, q224_84]
  · show mj_den mj_P E (d' + 2) 224 56 [.ref 205, .int (nI S), .int (nI W), .int wd, .int v4, .int (nI D), .int (nI n)] [] (mj_hw w c hm hl) = _
    rw [q224_56, m6, if_pos (Int32.le_refl _), q224_90]
end MJ82
