/-- a nerve anew -/
theorem au_nerve {r n l K : Nat} {h m : mj_HI} (n10 : n ≤ 10) (hK : K < 10) (hr : r = 2 ∨ r = 177) (q : au r n l h m) (D : Int32) : au r n l (mj_u h (r + 1) K D) (mj_u m 206 (5 + K) D) := by
  obtain ⟨⟨⟨a0, a1, a2, a3, a4, a5, a6⟩, hb, x3, x4, x5, x6, x7⟩, y⟩ := q
  refine ⟨⟨⟨?_, ?_, ?_, ?_, ?_, ?_, ?_⟩, ?_, fun d hd => ?_, fun hq d hd => ?_, fun k hk => ?_, fun hq k hk => ?_, fun d hd => ?_⟩, fun hr i hi => ?_⟩
  · simp (disch := omega) only [mj_u_pt]; exact a0
  · simp (disch := omega) only [mj_u_pt]; exact a1
  · simp (disch := omega) only [mj_u_pt]; exact a2
  · simp (disch := omega) only [mj_u_pt]; exact a3
  · simp (disch := omega) only [mj_u_pt]; exact a4
  · simp (disch := omega) only [mj_u_pt]; exact a5
  · simp (disch := omega) only [mj_u_pt]; exact a6
  · rw [mj_u_pt (by omega)]; exact hb
  · obtain ⟨b1, b2, b3, b4, b5, b6⟩ := x3 d hd
    refine ⟨?_, ?_, ?_, ?_, ?_, ?_⟩
    · by_cases hdK : d = K
      · subst hdK; rw [mj_u_eq, mj_u_eq]
      · rw [mj_u_pt (by omega), mj_u_pt (by omega)]; exact b1
    · simp (disch := omega) only [mj_u_pt]; exact b2
    · simp (disch := omega) only [mj_u_pt]; exact b3
    · simp (disch := omega) only [mj_u_pt]; exact b4
    · simp (disch := omega) only [mj_u_pt]; exact b5
    · simp (disch := omega) only [mj_u_pt]; exact b6
  · have : (fun k => decide ((mj_u m 206 (5 + K) D) 206 (45 + k) = nI (d + 1))) = (fun k => decide (m 206 (45 + k) = nI (d + 1))) := funext (fun k => by rw [mj_u_pt (by omega)])
    rw [mj_u_pt (by omega), this]; exact x4 hq d hd
  · have := x5 k hk
    simp (disch := omega) only [mj_u_pt]; exact this
  · have := x6 hq k hk
    simp (disch := omega) only [mj_u_pt]; exact this
  · rw [mj_u_pt (by omega)]; exact x7 d hd
  · have := y hr i hi
    simp (disch := omega) only [mj_u_pt]; exact this
section MJ86
variable {E : mj_E} {d d' w c : Nat} {hl : Nat → Nat → Int64}
theorem wl_mx (x : Int32) : (if 0 ≤ x then x else 0) = (if 0 < x then x else 0) := by
  by_cases h : 0 < x
  · rw [if_pos h, if_pos (Int32.le_of_lt h)]
  · rw [if_neg h]
    by_cases h2 : 0 ≤ x
    · rw [if_pos h2]; exact (Int32.le_antisymm h2 (Int32.not_lt.mp h)).symm
    · rw [if_neg h2]
/-- those who winced and did not win: three less of nerve -/
theorem s_shaken {r n l K k A S0 : Nat} {flag v5 : Int32} (hr : mj_Rm w c r) (hr2 : r = 2 ∨ r = 177) (n10 : n ≤ 10) (hA : A < 2 ^ n) (hK : K < n) : ∀ (cnt i : Nat) (hx : mj_HI), i + cnt = n → hx r 0 = nI n → hx 188 0 = nI K → ∃ hx', mj_den mj_P E (d + 5) 4 174 [.ref 188, .ref 1, .ref r, .int (nI k), .int (nI A), .int flag, .int v5, .int (nI i)] [] (mj_hw w c hx hl) = some (none, mj_hw w c hx' hl) ∧ (∀ a k, a ≠ r + 1 → hx' a k = hx a k) ∧ ∀ hm, hm 205 6 = nI n → hm 205 46 = nI A → au r n l hx hm → ∃ hm', mj_den mj_P E (d' + 8) 226 140 [.ref 205, .int (nI k), .int (nI S0), .int (nI K), .int (nI i)] [] (mj_hw w c hm hl) = some (some (.int (nI K)), mj_hw w c hm' hl) ∧ (∀ a k, a ≠ 206 → hm' a k = hm a k) ∧ au r n l hx' hm' := by
  have h2n : (2 : Nat) ^ n ≤ 2 ^ 10 := Nat.pow_le_pow_right (by omega) n10
  intro cnt
  induction cnt with
  | zero =>
    intro i hx hin h0 hk0
    have hin : i = n := by omega
    subst hin
    refine ⟨hx, ?_, fun _ _ _ => rfl, fun hm m6 m46 q => ⟨hm, ?_, fun _ _ _ => rfl, q⟩⟩
    · rw [g4_174 hr, h0, if_pos (Int32.le_refl _), g4_235 hr]
    · rw [q226_140, m6, if_pos (Int32.le_refl _), q226_199]
  | succ cnt ih =>
    intro i hx hin h0 hk0
    have hle : ¬ nI n ≤ nI i := by rw [mj_nIle (by omega) (by omega)]; omega
    have hle2 : ¬ nI 10 ≤ nI i := by rw [mj_nIle (by omega) (by omega)]; omega
    have skip : ∀ g : mj_HI, (∀ a k, a ≠ r + 1 → g a k = hx a k) → ∃ hx', mj_den mj_P E (d + 5) 4 229 [.ref 188, .ref 1, .ref r, .int (nI k), .int (nI A), .int flag, .int v5, .int (nI i)] [] (mj_hw w c g hl) = some (none, mj_hw w c hx' hl) ∧ (∀ a k, a ≠ r + 1 → hx' a k = hx a k) ∧ ∀ hm, hm 205 6 = nI n → hm 205 46 = nI A → au r n l g hm → ∃ hm', mj_den mj_P E (d' + 8) 226 193 [.ref 205, .int (nI k), .int (nI S0), .int (nI K), .int (nI i)] [] (mj_hw w c hm hl) = some (some (.int (nI K)), mj_hw w c hm' hl) ∧ (∀ a k, a ≠ 206 → hm' a k = hm a k) ∧ au r n l hx' hm' := fun g hg => by
      obtain ⟨hx', e1, e2, e3⟩ := ih (i + 1) g (by omega) (by rw [hg _ _ (by omega)]; exact h0) (by rw [hg _ _ (by omega)]; exact hk0)
      refine ⟨hx', by rw [g4_229 hr, mj_nIs]; exact e1, fun a k h => (e2 a k h).trans (hg a k h), fun hm m6 m46 q => ?_⟩
      obtain ⟨hm', f1, f2, f3⟩ := e3 hm m6 m46 q
      exact ⟨hm', by rw [q226_193, mj_nIs]; exact f1, f2, f3⟩
    by_cases hiK : i = K
    · subst hiK
      obtain ⟨hx', e1, e2, e3⟩ := skip hx (fun _ _ _ => rfl)
      refine ⟨hx', ?_, e2, fun hm m6 m46 q => ?_⟩
      · rw [g4_174 hr, h0, if_neg hle, show (10 : Int32) = nI 10 from rfl, if_neg hle2, hk0, if_pos rfl]; exact e1
      · obtain ⟨hm', f1, f2, f3⟩ := e3 hm m6 m46 q
        exact ⟨hm', by rw [q226_140, m6, if_neg hle, if_pos rfl]; exact f1, f2, f3⟩
    · have hne : ¬ nI i = nI K := by rw [mj_nIeq (by omega) (by omega)]; exact hiK
      by_cases hbit : A.testBit i = true
      · obtain ⟨hx', e1, e2, e3⟩ := skip (mj_u hx (r + 1) i (if 0 < hx (r + 1) i - nI 3 then hx (r + 1) i - nI 3 else 0)) (fun a k h => mj_u_pt (by omega))
        have h5 : nI 5 + nI i = nI (5 + i) := mj_nIadd 5 i
        refine ⟨hx', ?_, e2, fun hm m6 m46 q => ?_⟩
        · rw [← e1, g4_174 hr]
          simp (disch := omega) only [↓reduceIte, Bool.false_eq_true, eq_self, mj_10, mj_01, mj_n10, mj_0n1, mj_1n1, mj_n11, mj_bi_some, mj_bv_some, mj_bj_some, mj_br_some, mj_r0, mj_r1, mj_q0, mj_q1, mj_b01, mj_q2, if_true, if_false, mj_it, mj_if, true_and, and_true, false_and, and_false, not_true_eq_false, not_false_eq_true, true_or, or_true, false_or, or_false, mj_nIle, mj_nIlt, mj_nIeq, mj_nI0, mj_nIc, mj_nIadd, mj_nIs, mj_ez, mj_ze, mj_eo, mj_ltz, mj_lez, mj_zlt, mj_olt, mj_lto, mj_leo, mj_ole, mj_nIn, mj_nnI, nl_2, nl_3, nl_4, nl_5, nl_6, nl_7, nl_8, nl_9, nl_10, nl_11, nl_12, nl_13, nl_14, nl_15, nl_16, nl_17, nl_18, nl_19, nl_20, nl_21, nl_22, nl_23, nl_24, nl_25, nl_26, nl_27, nl_28, nl_29, nl_30, nl_32, nl_33, nl_34, nl_35, nl_36, nl_37, nl_38, nl_39, nl_40, nl_41, nl_42, nl_43, nl_44, nl_45, nl_46, nl_47, nl_48, nl_49, nl_50, nl_51, nl_52, nl_53, nl_54, nl_55, nl_56, nl_57, nl_58, nl_59, nl_60, nl_61, nl_62, nl_64, nl_65, nl_66, nl_67, nl_68, nl_69, nl_92, nl_97, nl_99, nl_100, nl_122, nl_127, nl_128, nl_131, nl_132, nl_150, nl_200, nl_255, nl_256, nl_300, nl_342, nl_380, nl_381, nl_400, nl_401, nl_420, nl_500, nl_600, nl_800, nl_999, nl_1000, nl_1023, nl_1024, nl_1200, nl_2048, nl_2100, nl_4096, nl_9999, nl_10000, nl_10240, nl_999999, nl_1000000, if_pos, if_neg, h0, hk0, hne, s_hX, hbit, g4_206 hr, s_max2, g4_228 hr]
        · have hn1 := (q.1.2.2.1 i (by omega)).1
          have mq := au_nerve n10 (show i < 10 by omega) hr2 q (if 0 < hx (r + 1) i - nI 3 then hx (r + 1) i - nI 3 else 0)
          obtain ⟨hm', f1, f2, f3⟩ := e3 _ (by rw [mj_u_pt (by omega)]; exact m6) (by rw [mj_u_pt (by omega)]; exact m46) mq
          refine ⟨hm', ?_, fun a k h => by rw [f2 a k h, mj_u_pt (by omega)], f3⟩
          rw [← f1, q226_140]
          simp (disch := omega) only [↓reduceIte, Bool.false_eq_true, eq_self, mj_10, mj_01, mj_n10, mj_0n1, mj_1n1, mj_n11, mj_bi_some, mj_bv_some, mj_bj_some, mj_br_some, mj_r0, mj_r1, mj_q0, mj_q1, mj_b01, mj_q2, if_true, if_false, mj_it, mj_if, true_and, and_true, false_and, and_false, not_true_eq_false, not_false_eq_true, true_or, or_true, false_or, or_false, mj_nIle, mj_nIlt, mj_nIeq, mj_nI0, mj_nIc, mj_nIadd, mj_nIs, mj_ez, mj_ze, mj_eo, mj_ltz, mj_lez, mj_zlt, mj_olt, mj_lto, mj_leo, mj_ole, mj_nIn, mj_nnI, nl_2, nl_3, nl_4, nl_5, nl_6, nl_7, nl_8, nl_9, nl_10, nl_11, nl_12, nl_13, nl_14, nl_15, nl_16, nl_17, nl_18, nl_19, nl_20, nl_21, nl_22, nl_23, nl_24, nl_25, nl_26, nl_27, nl_28, nl_29, nl_30, nl_32, nl_33, nl_34, nl_35, nl_36, nl_37, nl_38, nl_39, nl_40, nl_41, nl_42, nl_43, nl_44, nl_45, nl_46, nl_47, nl_48, nl_49, nl_50, nl_51, nl_52, nl_53, nl_54, nl_55, nl_56, nl_57, nl_58, nl_59, nl_60, nl_61, nl_62, nl_64, nl_65, nl_66, nl_67, nl_68, nl_69, nl_92, nl_97, nl_99, nl_100, nl_122, nl_127, nl_128, nl_131, nl_132, nl_150, nl_200, nl_255, nl_256, nl_300, nl_342, nl_380, nl_381, nl_400, nl_401, nl_420, nl_500, nl_600, nl_800, nl_999, nl_1000, nl_1023, nl_1024, nl_1200, nl_2048, nl_2100, nl_4096, nl_9999, nl_10000, nl_10240, nl_999999, nl_1000000, if_pos, if_neg, m6, m46, hne, s_hM, hbit, q226_165, h5, s_max154, q226_192, wl_mx, hn1]
      · obtain ⟨hx', e1, e2, e3⟩ := skip hx (fun _ _ _ => rfl)
        refine ⟨hx', ?_, e2, fun hm m6 m46 q => ?_⟩
        · rw [← e1, g4_174 hr]
          simp (disch := omega) only [↓reduceIte, Bool.false_eq_true, eq_self, mj_10, mj_01, mj_n10, mj_0n1, mj_1n1, mj_n11, mj_bi_some, mj_bv_some, mj_bj_some, mj_br_some, mj_r0, mj_r1, mj_q0, mj_q1, mj_b01, mj_q2, if_true, if_false, mj_it, mj_if, true_and, and_true, false_and, and_false, not_true_eq_false, not_false_eq_true, true_or, or_true, false_or, or_false, mj_nIle, mj_nIlt, mj_nIeq, mj_nI0, mj_nIc, mj_nIadd, mj_nIs, mj_ez, mj_ze, mj_eo, mj_ltz, mj_lez, mj_zlt, mj_olt, mj_lto, mj_leo, mj_ole, mj_nIn, mj_nnI, nl_2, nl_3, nl_4, nl_5, nl_6, nl_7, nl_8, nl_9, nl_10, nl_11, nl_12, nl_13, nl_14, nl_15, nl_16, nl_17, nl_18, nl_19, nl_20, nl_21, nl_22, nl_23, nl_24, nl_25, nl_26, nl_27, nl_28, nl_29, nl_30, nl_32, nl_33, nl_34, nl_35, nl_36, nl_37, nl_38, nl_39, nl_40, nl_41, nl_42, nl_43, nl_44, nl_45, nl_46, nl_47, nl_48, nl_49, nl_50, nl_51, nl_52, nl_53, nl_54, nl_55, nl_56, nl_57, nl_58, nl_59, nl_60, nl_61, nl_62, nl_64, nl_65, nl_66, nl_67, nl_68, nl_69, nl_92, nl_97, nl_99, nl_100, nl_122, nl_127, nl_128, nl_131, nl_132, nl_150, nl_200, nl_255, nl_256, nl_300, nl_342, nl_380, nl_381, nl_400, nl_401, nl_420, nl_500, nl_600, nl_800, nl_999, nl_1000, nl_1023, nl_1024, nl_1200, nl_2048, nl_2100, nl_4096, nl_9999, nl_10000, nl_10240, nl_999999, nl_1000000, if_pos, if_neg, h0, hk0, hne, s_hX, hbit, g4_206 hr]
        · obtain ⟨hm', f1, f2, f3⟩ := e3 hm m6 m46 q
          refine ⟨hm', ?_, f2, f3⟩
          rw [← f1, q226_140]
          simp (disch := omega) only [↓reduceIte, Bool.false_eq_true, eq_self, mj_10, mj_01, mj_n10, mj_0n1, mj_1n1, mj_n11, mj_bi_some, mj_bv_some, mj_bj_some, mj_br_some, mj_r0, mj_r1, mj_q0, mj_q1, mj_b01, mj_q2, if_true, if_false, mj_it, mj_if, true_and, and_true, false_and, and_false, not_true_eq_false, not_false_eq_true, true_or, or_true, false_or, or_false, mj_nIle, mj_nIlt, mj_nIeq, mj_nI0, mj_nIc, mj_nIadd, mj_nIs, mj_ez, mj_ze, mj_eo, mj_ltz, mj_lez, mj_zlt, mj_olt, mj_lto, mj_leo, mj_ole, mj_nIn, mj_nnI, nl_2, nl_3, nl_4, nl_5, nl_6, nl_7, nl_8, nl_9, nl_10, nl_11, nl_12, nl_13, nl_14, nl_15, nl_16, nl_17, nl_18, nl_19, nl_20, nl_21, nl_22, nl_23, nl_24, nl_25, nl_26, nl_27, nl_28, nl_29, nl_30, nl_32, nl_33, nl_34, nl_35, nl_36, nl_37, nl_38, nl_39, nl_40, nl_41, nl_42, nl_43, nl_44, nl_45, nl_46, nl_47, nl_48, nl_49, nl_50, nl_51, nl_52, nl_53, nl_54, nl_55, nl_56, nl_57, nl_58, nl_59, nl_60, nl_61, nl_62, nl_64, nl_65, nl_66, nl_67, nl_68, nl_69, nl_92, nl_97, nl_99, nl_100, nl_122, nl_127, nl_128, nl_131, nl_132, nl_150, nl_200, nl_255, nl_256, nl_300, nl_342, nl_380, nl_381, nl_400, nl_401, nl_420, nl_500, nl_600, nl_800, nl_999, nl_1000, nl_1023, nl_1024, nl_1200, nl_2048, nl_2100, nl_4096, nl_9999, nl_10000, nl_10240, nl_999999, nl_1000000, if_pos, if_neg, m6, m46, hne, s_hM, hbit, q226_165]
end MJ86
