section MJ89y5
variable {E : mj_E} {d w c : Nat} {hi : mj_HI} {hl : Nat → Nat → Int64}
theorem s_wrongX {x : Nat → Nat} {n : Nat} (n12 : n ≤ 12) (hx : ∀ i, i < n → hi 41 i = nI (x i) ∧ x i ≤ 99) : mj_dc mj_P E (d + 1) 10 [.ref 202, .ref 41, .int (nI n)] (mj_hw w c hi hl) = some (some (.int (nI (wt_R (fun a b => decide (x b < x a)) n))), mj_hw w c hi hl) := by
  have e12 : Int32.ofNat 12 = nI 12 := rfl
  obtain ⟨A, hA⟩ : ∃ A : Nat → Nat → Bool, A = fun a b => decide (x b < x a) := ⟨_, rfl⟩
  rw [← hA]
  -- those ahead of b
  have hin : ∀ b v3, b < n → mj_den mj_P E d 10 21 [.ref 202, .ref 41, .int (nI n), .int (nI v3), .int (nI b), .int 0] [] (mj_hw w c hi hl) = mj_den mj_P E d 10 48 [.ref 202, .ref 41, .int (nI n), .int (nI (v3 + iv_cnt (fun a => A a b) b)), .int (nI b), .int (nI b)] [] (mj_hw w c hi hl) := by
    intro b v3 hb
    obtain ⟨xb, xb2⟩ := hx b hb
    have l1 := lp_up (fun a => mj_den mj_P E d 10 21 [.ref 202, .ref 41, .int (nI n), .int (nI (v3 + iv_cnt (fun a => A a b) a)), .int (nI b), .int (nI a)] [] (mj_hw w c hi hl)) b (fun a ha => by
      show mj_den mj_P E d 10 21 [.ref 202, .ref 41, .int (nI n), .int (nI (v3 + iv_cnt (fun a => A a b) a)), .int (nI b), .int (nI a)] [] (mj_hw w c hi hl) = mj_den mj_P E d 10 21 [.ref 202, .ref 41, .int (nI n), .int (nI (v3 + iv_cnt (fun a => A a b) (a + 1))), .int (nI b), .int (nI (a + 1))] [] (mj_hw w c hi hl)
      obtain ⟨xa, xa2⟩ := hx a (by omega)
      have na : ¬ b ≤ a := by omega
      rw [g10_21, iv_cnt_s]
      by_cases hlt : x b < x a
      · have nle : ¬ x a ≤ x b := by omega
        rw [if_pos (show A a b = true by rw [hA]; exact decide_eq_true hlt), ← Nat.add_assoc]
        simp (disch := omega) only [↓reduceIte, Bool.false_eq_true, eq_self, mj_10, mj_01, mj_n10, mj_0n1, mj_1n1, mj_n11, mj_bi_some, mj_bv_some, mj_bj_some, mj_br_some, mj_r0, mj_r1, mj_q0, mj_q1, mj_b01, mj_q2, if_true, if_false, mj_it, mj_if, true_and, and_true, false_and, and_false, not_true_eq_false, not_false_eq_true, true_or, or_true, false_or, or_false, mj_nIle, mj_nIlt, mj_nIeq, mj_nI0, mj_nIc, mj_nIadd, mj_nIs, mj_ez, mj_ze, mj_eo, mj_ltz, mj_lez, mj_zlt, mj_olt, mj_lto, mj_leo, mj_ole, mj_nIn, mj_nnI, nl_2, nl_3, nl_4, nl_5, nl_6, nl_7, nl_8, nl_9, nl_10, nl_11, nl_12, nl_13, nl_14, nl_15, nl_16, nl_17, nl_18, nl_19, nl_20, nl_21, nl_22, nl_23, nl_24, nl_25, nl_26, nl_27, nl_28, nl_29, nl_30, nl_32, nl_33, nl_34, nl_35, nl_36, nl_37, nl_38, nl_39, nl_40, nl_41, nl_42, nl_43, nl_44, nl_45, nl_46, nl_47, nl_48, nl_49, nl_50, nl_51, nl_52, nl_53, nl_54, nl_55, nl_56, nl_57, nl_58, nl_59, nl_60, nl_61, nl_62, nl_64, nl_65, nl_66, nl_67, nl_68, nl_69, nl_92, nl_97, nl_99, nl_100, nl_122, nl_127, nl_128, nl_131, nl_132, nl_150, nl_200, nl_255, nl_256, nl_300, nl_342, nl_380, nl_381, nl_400, nl_401, nl_420, nl_500, nl_600, nl_800, nl_999, nl_1000, nl_1023, nl_1024, nl_1200, nl_2048, nl_2100, nl_4096, nl_9999, nl_10000, nl_10240, nl_999999, nl_1000000, if_pos, if_neg, na, xa, xb, nle, g10_42]
      · have nle : x a ≤ x b := by omega
        rw [if_neg (show ¬ A a b = true by rw [hA]; exact fun z => hlt (of_decide_eq_true z)), Nat.add_zero]
        simp (disch := omega) only [↓reduceIte, Bool.false_eq_true, eq_self, mj_10, mj_01, mj_n10, mj_0n1, mj_1n1, mj_n11, mj_bi_some, mj_bv_some, mj_bj_some, mj_br_some, mj_r0, mj_r1, mj_q0, mj_q1, mj_b01, mj_q2, if_true, if_false, mj_it, mj_if, true_and, and_true, false_and, and_false, not_true_eq_false, not_false_eq_true, true_or, or_true, false_or, or_false, mj_nIle, mj_nIlt, mj_nIeq, mj_nI0, mj_nIc, mj_nIadd, mj_nIs, mj_ez, mj_ze, mj_eo, mj_ltz, mj_lez, mj_zlt, mj_olt, mj_lto, mj_leo, mj_ole, mj_nIn, mj_nnI, nl_2, nl_3, nl_4, nl_5, nl_6, nl_7, nl_8, nl_9, nl_10, nl_11, nl_12, nl_13, nl_14, nl_15, nl_16, nl_17, nl_18, nl_19, nl_20, nl_21, nl_22, nl_23, nl_24, nl_25, nl_26, nl_27, nl_28, nl_29, nl_30, nl_32, nl_33, nl_34, nl_35, nl_36, nl_37, nl_38, nl_39, nl_40, nl_41, nl_42, nl_43, nl_44, nl_45, nl_46, nl_47, nl_48, nl_49, nl_50, nl_51, nl_52, nl_53, nl_54, nl_55, nl_56, nl_57, nl_58, nl_59, nl_60, nl_61, nl_62, nl_64, nl_65, nl_66, nl_67, nl_68, nl_69, nl_92, nl_97, nl_99, nl_100, nl_122, nl_127, nl_128, nl_131, nl_132, nl_150, nl_200, nl_255, nl_256, nl_300, nl_342, nl_380, nl_381, nl_400, nl_401, nl_420, nl_500, nl_600, nl_800, nl_999, nl_1000, nl_1023, nl_1024, nl_1200, nl_2048, nl_2100, nl_4096, nl_9999, nl_10000, nl_10240, nl_999999, nl_1000000, if_pos, if_neg, na, xa, xb, nle, g10_42])
    have l1' : mj_den mj_P E d 10 21 [.ref 202, .ref 41, .int (nI n), .int (nI v3), .int (nI b), .int 0] [] (mj_hw w c hi hl) = mj_den mj_P E d 10 21 [.ref 202, .ref 41, .int (nI n), .int (nI (v3 + iv_cnt (fun a => A a b) b)), .int (nI b), .int (nI b)] [] (mj_hw w c hi hl) := l1
    rw [l1', g10_21, if_pos (Int32.le_refl _)]
  have hR1 : ∀ n, n = 0 ∨ wt_R A n = wt_R A (n - 1 + 1) := fun n => by
    by_cases h : n = 0
    · exact Or.inl h
    · exact Or.inr (by rw [show n - 1 + 1 = n by omega])
  by_cases hn : n ≤ 1
  · have hR0 : wt_R A n = 0 := by
      rcases (show n = 0 ∨ n = 1 by omega) with h | h
      · rw [h]; rfl
      · rw [h]; rfl
    have hle : nI n ≤ (1 : Int32) := by rw [show (1 : Int32) = nI 1 from rfl, mj_nIle (by omega) (by omega)]; exact hn
    rw [hR0, xg10, g10_0, g10_5, if_pos hle, g10_54]; rfl
  · have key := lp_ex (fun j (u5 : Value) => mj_den mj_P E d 10 5 [.ref 202, .ref 41, .int (nI n), .int (nI (wt_R A (j + 1))), .int (nI (j + 1)), u5] [] (mj_hw w c hi hl)) (fun _ _ => True) (n - 1) (fun j u5 hj _ => by
      refine ⟨.int (nI (j + 1)), ?_, trivial⟩
      show mj_den mj_P E d 10 5 [.ref 202, .ref 41, .int (nI n), .int (nI (wt_R A (j + 1))), .int (nI (j + 1)), u5] [] (mj_hw w c hi hl) = mj_den mj_P E d 10 5 [.ref 202, .ref 41, .int (nI n), .int (nI (wt_R A (j + 1 + 1))), .int (nI (j + 1 + 1)), .int (nI (j + 1))] [] (mj_hw w c hi hl)
      have n1 : ¬ nI n ≤ nI (j + 1) := by rw [mj_nIle (by omega) (by omega)]; omega
      have n2 : ¬ nI 12 ≤ nI (j + 1) := by rw [mj_nIle (by omega) (by omega)]; omega
      rw [g10_5, if_neg n1, e12, if_neg n2, hin (j + 1) (wt_R A (j + 1)) (by omega), g10_48, mj_nIs]
      rfl) (.float 0) trivial
    obtain ⟨u5, ek, _⟩ := key
    have ek' : mj_den mj_P E d 10 5 [.ref 202, .ref 41, .int (nI n), .int 0, .int 1, .float 0] [] (mj_hw w c hi hl) = mj_den mj_P E d 10 5 [.ref 202, .ref 41, .int (nI n), .int (nI (wt_R A (n - 1 + 1))), .int (nI (n - 1 + 1)), u5] [] (mj_hw w c hi hl) := ek
    rw [xg10, g10_0, ek', show n - 1 + 1 = n by omega, g10_5, if_pos (Int32.le_refl _), g10_54]
theorem s_wrongM {x : Nat → Nat} {n : Nat} (n12 : n ≤ 12) (h0 : hi 205 58 = nI n) (hx : ∀ i, i < n → hi 237 i = nI (x i) ∧ x i ≤ 99) (v1 : Int32) : mj_den mj_P E d 279 26 [.ref 205, .int v1, .float 0, .float 0, .float 0] [] (mj_hw w c hi hl) = some (some (.int (nI (wt_R (fun a b => decide (x b < x a)) n))), mj_hw w c hi hl) := by
  obtain ⟨A, hA⟩ : ∃ A : Nat → Nat → Bool, A = fun a b => decide (x b < x a) := ⟨_, rfl⟩
  rw [← hA, ← wt_SR A n]
  -- those behind a
  have hin : ∀ a v2, a < n → mj_den mj_P E d 279 43 [.ref 205, .int v1, .int (nI v2), .int (nI a), .int (nI (a + 1))] [] (mj_hw w c hi hl) = mj_den mj_P E d 279 78 [.ref 205, .int v1, .int (nI (v2 + iv_cnt (fun b => decide (a < b) && A a b) n)), .int (nI a), .int (nI n)] [] (mj_hw w c hi hl) := by
    intro a v2 ha
    obtain ⟨xa, xa2⟩ := hx a ha
    have l1 := lp_from (fun b => mj_den mj_P E d 279 43 [.ref 205, .int v1, .int (nI (v2 + iv_cnt (fun b => decide (a < b) && A a b) b)), .int (nI a), .int (nI b)] [] (mj_hw w c hi hl)) (a + 1) n (by omega) (fun b hb1 hb => by
      show mj_den mj_P E d 279 43 [.ref 205, .int v1, .int (nI (v2 + iv_cnt (fun b => decide (a < b) && A a b) b)), .int (nI a), .int (nI b)] [] (mj_hw w c hi hl) = mj_den mj_P E d 279 43 [.ref 205, .int v1, .int (nI (v2 + iv_cnt (fun b => decide (a < b) && A a b) (b + 1))), .int (nI a), .int (nI (b + 1))] [] (mj_hw w c hi hl)
      obtain ⟨xb, xb2⟩ := hx b hb
      have nb : ¬ n ≤ b := by omega
      rw [g279_43, h0, iv_cnt_s]
      by_cases hlt : x b < x a
      · have nle : ¬ x a ≤ x b := by omega
        rw [if_pos (show (decide (a < b) && A a b) = true by rw [hA, decide_eq_true (show a < b by omega)]; exact decide_eq_true hlt), ← Nat.add_assoc]
        simp (disch := omega) only [↓reduceIte, Bool.false_eq_true, eq_self, mj_10, mj_01, mj_n10, mj_0n1, mj_1n1, mj_n11, mj_bi_some, mj_bv_some, mj_bj_some, mj_br_some, mj_r0, mj_r1, mj_q0, mj_q1, mj_b01, mj_q2, if_true, if_false, mj_it, mj_if, true_and, and_true, false_and, and_false, not_true_eq_false, not_false_eq_true, true_or, or_true, false_or, or_false, mj_nIle, mj_nIlt, mj_nIeq, mj_nI0, mj_nIc, mj_nIadd, mj_nIs, mj_ez, mj_ze, mj_eo, mj_ltz, mj_lez, mj_zlt, mj_olt, mj_lto, mj_leo, mj_ole, mj_nIn, mj_nnI, nl_2, nl_3, nl_4, nl_5, nl_6, nl_7, nl_8, nl_9, nl_10, nl_11, nl_12, nl_13, nl_14, nl_15, nl_16, nl_17, nl_18, nl_19, nl_20, nl_21, nl_22, nl_23, nl_24, nl_25, nl_26, nl_27, nl_28, nl_29, nl_30, nl_32, nl_33, nl_34, nl_35, nl_36, nl_37, nl_38, nl_39, nl_40, nl_41, nl_42, nl_43, nl_44, nl_45, nl_46, nl_47, nl_48, nl_49, nl_50, nl_51, nl_52, nl_53, nl_54, nl_55, nl_56, nl_57, nl_58, nl_59, nl_60, nl_61, nl_62, nl_64, nl_65, nl_66, nl_67, nl_68, nl_69, nl_92, nl_97, nl_99, nl_100, nl_122, nl_127, nl_128, nl_131, nl_132, nl_150, nl_200, nl_255, nl_256, nl_300, nl_342, nl_380, nl_381, nl_400, nl_401, nl_420, nl_500, nl_600, nl_800, nl_999, nl_1000, nl_1023, nl_1024, nl_1200, nl_2048, nl_2100, nl_4096, nl_9999, nl_10000, nl_10240, nl_999999, nl_1000000, if_pos, if_neg, nb, xa, xb, nle, g279_72]
      · have nle : x a ≤ x b := by omega
        rw [if_neg (show ¬ (decide (a < b) && A a b) = true by rw [hA, decide_eq_true (show a < b by omega), Bool.true_and]; exact fun z => hlt (of_decide_eq_true z)), Nat.add_zero]
        simp (disch := omega) only [↓reduceIte, Bool.false_eq_true, eq_self, mj_10, mj_01, mj_n10, mj_0n1, mj_1n1, mj_n11, mj_bi_some, mj_bv_some, mj_bj_some, mj_br_some, mj_r0, mj_r1, mj_q0, mj_q1, mj_b01, mj_q2, if_true, if_false, mj_it, mj_if, true_and, and_true, false_and, and_false, not_true_eq_false, not_false_eq_true, true_or, or_true, false_or, or_false, mj_nIle, mj_nIlt, mj_nIeq, mj_nI0, mj_nIc, mj_nIadd, mj_nIs, mj_ez, mj_ze, mj_eo, mj_ltz, mj_lez, mj_zlt, mj_olt, mj_lto, mj_leo, mj_ole, mj_nIn, mj_nnI, nl_2, nl_3, nl_4, nl_5, nl_6, nl_7, nl_8, nl_9, nl_10, nl_11, nl_12, nl_13, nl_14, nl_15, nl_16, nl_17, nl_18, nl_19, nl_20, nl_21, nl_22, nl_23, nl_24, nl_25, nl_26, nl_27, nl_28, nl_29, nl_30, nl_32, nl_33, nl_34, nl_35, nl_36, nl_37, nl_38, nl_39, nl_40, nl_41, nl_42, nl_43, nl_44, nl_45, nl_46, nl_47, nl_48, nl_49, nl_50, nl_51, nl_52, nl_53, nl_54, nl_55, nl_56, nl_57, nl_58, nl_59, nl_60, nl_61, nl_62, nl_64, nl_65, nl_66, nl_67, nl_68, nl_69, nl_92, nl_97, nl_99, nl_100, nl_122, nl_127, nl_128, nl_131, nl_132, nl_150, nl_200, nl_255, nl_256, nl_300, nl_342, nl_380, nl_381, nl_400, nl_401, nl_420, nl_500, nl_600, nl_800, nl_999, nl_1000, nl_1023, nl_1024, nl_1200, nl_2048, nl_2100, nl_4096, nl_9999, nl_10000, nl_10240, nl_999999, nl_1000000, if_pos, if_neg, nb, xa, xb, nle, g279_72])
    have hz : iv_cnt (fun b => decide (a < b) && A a b) (a + 1) = 0 := iv_cnt_zero (fun i hi' => by rw [decide_eq_false (by omega)]; rfl)
    have l1' : mj_den mj_P E d 279 43 [.ref 205, .int v1, .int (nI v2), .int (nI a), .int (nI (a + 1))] [] (mj_hw w c hi hl) = mj_den mj_P E d 279 43 [.ref 205, .int v1, .int (nI (v2 + iv_cnt (fun b => decide (a < b) && A a b) n)), .int (nI a), .int (nI n)] [] (mj_hw w c hi hl) := by
      have := l1
      simp only [hz, Nat.add_zero] at this
      exact this
    rw [l1', g279_43, h0, if_pos (Int32.le_refl _)]
  have key := lp_ex (fun a (u4 : Value) => mj_den mj_P E d 279 30 [.ref 205, .int v1, .int (nI (wt_S A n a)), .int (nI a), u4] [] (mj_hw w c hi hl)) (fun _ _ => True) n (fun a u4 ha _ => by
    refine ⟨.int (nI n), ?_, trivial⟩
    show mj_den mj_P E d 279 30 [.ref 205, .int v1, .int (nI (wt_S A n a)), .int (nI a), u4] [] (mj_hw w c hi hl) = mj_den mj_P E d 279 30 [.ref 205, .int v1, .int (nI (wt_S A n (a + 1))), .int (nI (a + 1)), .int (nI n)] [] (mj_hw w c hi hl)
    have na : ¬ nI n ≤ nI a := by rw [mj_nIle (by omega) (by omega)]; omega
    rw [g279_30, h0, if_neg na, mj_nIs, hin a (wt_S A n a) ha, g279_78, mj_nIs]
    rfl) (.float 0) trivial
  obtain ⟨u4, ek, _⟩ := key
  have ek' : mj_den mj_P E d 279 30 [.ref 205, .int v1, .int 0, .int 0, .float 0] [] (mj_hw w c hi hl) = mj_den mj_P E d 279 30 [.ref 205, .int v1, .int (nI (wt_S A n n)), .int (nI n), u4] [] (mj_hw w c hi hl) := ek
  rw [g279_26, ek', g279_30, h0, if_pos (Int32.le_refl _), g279_84]
end MJ89y5
theorem iv_brea {n l : Nat} {h m : mj_HI} (q : iv_J n l h m) : ∃ (s : Nat) (x : Nat → Nat), s ≤ 12 ∧ h 34 9 = nI s ∧ m 205 58 = nI s ∧ ∀ i, i < s → (h 41 i = nI (x i) ∧ x i ≤ 99) ∧ m 237 i = nI (x i) := by
  obtain ⟨hS, hC, hP, hB, ⟨s, h1, h2, h3, h4⟩⟩ := iv_Jth q
  refine ⟨s, fun i => (h 41 i).toNatClampNeg, h1, h2, h3, fun i hi => ?_⟩
  obtain ⟨x, x1, x2, x3⟩ := h4 i hi
  have e : h 41 i = nI x := x2
  have e2 : (h 41 i).toNatClampNeg = x := by rw [e]; exact mj_nIc (by omega)
  show (h 41 i = nI (h 41 i).toNatClampNeg ∧ (h 41 i).toNatClampNeg ≤ 99) ∧ m 237 i = nI (h 41 i).toNatClampNeg
  rw [e2]; exact ⟨⟨e, x1⟩, x3⟩
theorem cs_breaths (a : Int32) : mj_Cs 141 279 [.int a] := by
  intro E d w c hi hl hE hw hI
  obtain ⟨n', l', q⟩ := iv_I_un.mp hI
  obtain ⟨n, x, n12, k1, k2, hx⟩ := iv_brea q
  by_cases h0 : a = 0
  · subst h0
    obtain ⟨c', g, hl2, y, e, f, eX, c4, y99, hWS, hey, hex, f0, hf, gf⟩ := s_swapX (E := E) (d := d + 96) (w := w) (c := c) (hi := hi) (hl := hl) (x := x) hw.2.2 n12 (fun i hi' => (hx i hi').1)
    have eX2 : mj_dc mj_P E (d + 99) 95 [.ref 189, .ref 41, .int (nI n)] (mj_hw w c hi hl) = some (some (.int (nI n - nI (f (2 ^ n - 1)))), mj_hw w c' g hl2) := eX
    have gr : ∀ a k, a < 242 → a ≠ 193 → ¬ (a = 205 ∧ k = 0) → (mj_u g 205 0 0) a k = hi a k := fun a k h1 h2 h3 => by rw [mj_u_pt (by omega), gf a k h1 h2]
    obtain ⟨z, eM, zf⟩ := s_swapsM (E := E) (d := d + 96) (w := w) (c := c') (hi := mj_u g 205 0 0) (hl := hl2) (x := x) (y := y) (e := e) (f := f) n12 (by rw [gr _ _ (by omega) (by omega) (by omega)]; exact k2) (fun i hi' => by rw [gr _ _ (by omega) (by omega) (by omega)]; exact ⟨(hx i hi').2, (hx i hi').1.2⟩) y99 hWS hey hex f0 hf
    have eM2 : mj_dc mj_P E (d + 99) 278 [.ref 205] (mj_hw w c' (mj_u g 205 0 0) hl2) = some (some (.int (nI n - nI (f (2 ^ n - 1)))), mj_hw w c' z hl2) := eM
    have zr : ∀ a k, a < 242 → a ≠ 193 → a ≠ 238 → a ≠ 239 → ¬ (a = 205 ∧ k = 0) → z a k = hi a k := fun a k h1 h2 h3 h4 h5 => by rw [zf a k h3 h4, gr a k h1 h2 h5]
    refine ⟨nI n - nI (f (2 ^ n - 1)), w, c', g, hl2, z, ?_, ?_, ?_, ⟨hw.1, hw.2.1, c4⟩⟩
    · simp (disch := omega) only [e141, q141_0, q141_31, ↓reduceIte, Bool.false_eq_true, eq_self, mj_10, mj_01, mj_n10, mj_0n1, mj_1n1, mj_n11, mj_bi_some, mj_bv_some, mj_bj_some, mj_br_some, mj_r0, mj_r1, mj_q0, mj_q1, mj_b01, mj_q2, if_true, if_false, mj_it, mj_if, true_and, and_true, false_and, and_false, not_true_eq_false, not_false_eq_true, true_or, or_true, false_or, or_false, mj_nIle, mj_nIlt, mj_nIeq, mj_nI0, mj_nIc, mj_nIadd, mj_nIs, mj_ez, mj_ze, mj_eo, mj_ltz, mj_lez, mj_zlt, mj_olt, mj_lto, mj_leo, mj_ole, mj_nIn, mj_nnI, nl_2, nl_3, nl_4, nl_5, nl_6, nl_7, nl_8, nl_9, nl_10, nl_11, nl_12, nl_13, nl_14, nl_15, nl_16, nl_17, nl_18, nl_19, nl_20, nl_21, nl_22, nl_23, nl_24, nl_25, nl_26, nl_27, nl_28, nl_29, nl_30, nl_32, nl_33, nl_34, nl_35, nl_36, nl_37, nl_38, nl_39, nl_40, nl_41, nl_42, nl_43, nl_44, nl_45, nl_46, nl_47, nl_48, nl_49, nl_50, nl_51, nl_52, nl_53, nl_54, nl_55, nl_56, nl_57, nl_58, nl_59, nl_60, nl_61, nl_62, nl_64, nl_65, nl_66, nl_67, nl_68, nl_69, nl_92, nl_97, nl_99, nl_100, nl_122, nl_127, nl_128, nl_131, nl_132, nl_150, nl_200, nl_255, nl_256, nl_300, nl_342, nl_380, nl_381, nl_400, nl_401, nl_420, nl_500, nl_600, nl_800, nl_999, nl_1000, nl_1023, nl_1024, nl_1200, nl_2048, nl_2100, nl_4096, nl_9999, nl_10000, nl_10240, nl_999999, nl_1000000, if_pos, if_neg, k1, eX2]
    · have hin : (0 : Int32) ≤ 0 ∧ (0 : Int32) ≤ 1 := by decide
      rw [xg279, g279_0, s_isIn]
      simp (disch := omega) only [↓reduceIte, Bool.false_eq_true, eq_self, mj_10, mj_01, mj_n10, mj_0n1, mj_1n1, mj_n11, mj_bi_some, mj_bv_some, mj_bj_some, mj_br_some, mj_r0, mj_r1, mj_q0, mj_q1, mj_b01, mj_q2, if_true, if_false, mj_it, mj_if, true_and, and_true, false_and, and_false, not_true_eq_false, not_false_eq_true, true_or, or_true, false_or, or_false, mj_nIle, mj_nIlt, mj_nIeq, mj_nI0, mj_nIc, mj_nIadd, mj_nIs, mj_ez, mj_ze, mj_eo, mj_ltz, mj_lez, mj_zlt, mj_olt, mj_lto, mj_leo, mj_ole, mj_nIn, mj_nnI, nl_2, nl_3, nl_4, nl_5, nl_6, nl_7, nl_8, nl_9, nl_10, nl_11, nl_12, nl_13, nl_14, nl_15, nl_16, nl_17, nl_18, nl_19, nl_20, nl_21, nl_22, nl_23, nl_24, nl_25, nl_26, nl_27, nl_28, nl_29, nl_30, nl_32, nl_33, nl_34, nl_35, nl_36, nl_37, nl_38, nl_39, nl_40, nl_41, nl_42, nl_43, nl_44, nl_45, nl_46, nl_47, nl_48, nl_49, nl_50, nl_51, nl_52, nl_53, nl_54, nl_55, nl_56, nl_57, nl_58, nl_59, nl_60, nl_61, nl_62, nl_64, nl_65, nl_66, nl_67, nl_68, nl_69, nl_92, nl_97, nl_99, nl_100, nl_122, nl_127, nl_128, nl_131, nl_132, nl_150, nl_200, nl_255, nl_256, nl_300, nl_342, nl_380, nl_381, nl_400, nl_401, nl_420, nl_500, nl_600, nl_800, nl_999, nl_1000, nl_1023, nl_1024, nl_1200, nl_2048, nl_2100, nl_4096, nl_9999, nl_10000, nl_10240, nl_999999, nl_1000000, if_pos, if_neg, hin, mj_bt, g279_12, g279_17, g279_25, eM2]
    · exact iv_J_same q (fun a k h => zr _ _ (by omega) (by omega) (by omega) (by omega) (by omega)) (fun a k h => zr _ _ (by omega) (by omega) (by omega) (by omega) (by omega)) (fun k h => zr _ _ (by omega) (by omega) (by omega) (by omega) (by omega))
  · by_cases h1 : a = 1
    · subst h1
      have eX : mj_dc mj_P E (d + 99) 10 [.ref 202, .ref 41, .int (nI n)] (mj_hw w c hi hl) = _ := s_wrongX (d := d + 98) (x := x) n12 (fun i hi' => (hx i hi').1)
      have eM := s_wrongM (E := E) (d := d + 99) (w := w) (c := c) (hi := mj_u hi 205 0 0) (hl := hl) (x := x) n12 (by rw [mj_u_pt (by omega)]; exact k2) (fun i hi' => by rw [mj_u_pt (by omega)]; exact ⟨(hx i hi').2, (hx i hi').1.2⟩) 1
      refine ⟨nI (wt_R (fun a b => decide (x b < x a)) n), w, c, hi, hl, mj_u hi 205 0 0, ?_, ?_, iv_told q, hw⟩
      · simp (disch := omega) only [e141, q141_0, q141_32, q141_64, q141_68, ↓reduceIte, Bool.false_eq_true, eq_self, mj_10, mj_01, mj_n10, mj_0n1, mj_1n1, mj_n11, mj_bi_some, mj_bv_some, mj_bj_some, mj_br_some, mj_r0, mj_r1, mj_q0, mj_q1, mj_b01, mj_q2, if_true, if_false, mj_it, mj_if, true_and, and_true, false_and, and_false, not_true_eq_false, not_false_eq_true, true_or, or_true, false_or, or_false, mj_nIle, mj_nIlt, mj_nIeq, mj_nI0, mj_nIc, mj_nIadd, mj_nIs, mj_ez, mj_ze, mj_eo, mj_ltz, mj_lez, mj_zlt, mj_olt, mj_lto, mj_leo, mj_ole, mj_nIn, mj_nnI, nl_2, nl_3, nl_4, nl_5, nl_6, nl_7, nl_8, nl_9, nl_10, nl_11, nl_12, nl_13, nl_14, nl_15, nl_16, nl_17, nl_18, nl_19, nl_20, nl_21, nl_22, nl_23, nl_24, nl_25, nl_26, nl_27, nl_28, nl_29, nl_30, nl_32, nl_33, nl_34, nl_35, nl_36, nl_37, nl_38, nl_39, nl_40, nl_41, nl_42, nl_43, nl_44, nl_45, nl_46, nl_47, nl_48, nl_49, nl_50, nl_51, nl_52, nl_53, nl_54, nl_55, nl_56, nl_57, nl_58, nl_59, nl_60, nl_61, nl_62, nl_64, nl_65, nl_66, nl_67, nl_68, nl_69, nl_92, nl_97, nl_99, nl_100, nl_122, nl_127, nl_128, nl_131, nl_132, nl_150, nl_200, nl_255, nl_256, nl_300, nl_342, nl_380, nl_381, nl_400, nl_401, nl_420, nl_500, nl_600, nl_800, nl_999, nl_1000, nl_1023, nl_1024, nl_1200, nl_2048, nl_2100, nl_4096, nl_9999, nl_10000, nl_10240, nl_999999, nl_1000000, if_pos, if_neg, k1, eX]
      · have hin : (0 : Int32) ≤ 1 ∧ (1 : Int32) ≤ 1 := by decide
        rw [xg279, g279_0, s_isIn]
        simp (disch := omega) only [↓reduceIte, Bool.false_eq_true, eq_self, mj_10, mj_01, mj_n10, mj_0n1, mj_1n1, mj_n11, mj_bi_some, mj_bv_some, mj_bj_some, mj_br_some, mj_r0, mj_r1, mj_q0, mj_q1, mj_b01, mj_q2, if_true, if_false, mj_it, mj_if, true_and, and_true, false_and, and_false, not_true_eq_false, not_false_eq_true, true_or, or_true, false_or, or_false, mj_nIle, mj_nIlt, mj_nIeq, mj_nI0, mj_nIc, mj_nIadd, mj_nIs, mj_ez, mj_ze, mj_eo, mj_ltz, mj_lez, mj_zlt, mj_olt, mj_lto, mj_leo, mj_ole, mj_nIn, mj_nnI, nl_2, nl_3, nl_4, nl_5, nl_6, nl_7, nl_8, nl_9, nl_10, nl_11, nl_12, nl_13, nl_14, nl_15, nl_16, nl_17, nl_18, nl_19, nl_20, nl_21, nl_22, nl_23, nl_24, nl_25, nl_26, nl_27, nl_28, nl_29, nl_30, nl_32, nl_33, nl_34, nl_35, nl_36, nl_37, nl_38, nl_39, nl_40, nl_41, nl_42, nl_43, nl_44, nl_45, nl_46, nl_47, nl_48, nl_49, nl_50, nl_51, nl_52, nl_53, nl_54, nl_55, nl_56, nl_57, nl_58, nl_59, nl_60, nl_61, nl_62, nl_64, nl_65, nl_66, nl_67, nl_68, nl_69, nl_92, nl_97, nl_99, nl_100, nl_122, nl_127, nl_128, nl_131, nl_132, nl_150, nl_200, nl_255, nl_256, nl_300, nl_342, nl_380, nl_381, nl_400, nl_401, nl_420, nl_500, nl_600, nl_800, nl_999, nl_1000, nl_1023, nl_1024, nl_1200, nl_2048, nl_2100, nl_4096, nl_9999, nl_10000, nl_10240, nl_999999, nl_1000000, if_pos, if_neg, hin, mj_bt, g279_12, g279_17, eM]
    · have hin : ¬ (0 ≤ a ∧ a ≤ 1) := fun h => by
        obtain ⟨A, hA, rfl⟩ := mj_ofn h.1
        have := h.2
        rw [show (1 : Int32) = nI 1 from rfl, mj_nIle hA (by omega)] at this
        rcases (show A = 0 ∨ A = 1 by omega) with z | z
        · subst z; exact h0 rfl
        · subst z; exact h1 rfl
      refine ⟨-1, w, c, hi, hl, mj_u hi 205 0 0, ?_, ?_, iv_told q, hw⟩
      · simp (disch := omega) only [e141, q141_0, q141_32, q141_67, q141_68, ↓reduceIte, Bool.false_eq_true, eq_self, mj_10, mj_01, mj_n10, mj_0n1, mj_1n1, mj_n11, mj_bi_some, mj_bv_some, mj_bj_some, mj_br_some, mj_r0, mj_r1, mj_q0, mj_q1, mj_b01, mj_q2, if_true, if_false, mj_it, mj_if, true_and, and_true, false_and, and_false, not_true_eq_false, not_false_eq_true, true_or, or_true, false_or, or_false, mj_nIle, mj_nIlt, mj_nIeq, mj_nI0, mj_nIc, mj_nIadd, mj_nIs, mj_ez, mj_ze, mj_eo, mj_ltz, mj_lez, mj_zlt, mj_olt, mj_lto, mj_leo, mj_ole, mj_nIn, mj_nnI, nl_2, nl_3, nl_4, nl_5, nl_6, nl_7, nl_8, nl_9, nl_10, nl_11, nl_12, nl_13, nl_14, nl_15, nl_16, nl_17, nl_18, nl_19, nl_20, nl_21, nl_22, nl_23, nl_24, nl_25, nl_26, nl_27, nl_28, nl_29, nl_30, nl_32, nl_33, nl_34, nl_35, nl_36, nl_37, nl_38, nl_39, nl_40, nl_41, nl_42, nl_43, nl_44, nl_45, nl_46, nl_47, nl_48, nl_49, nl_50, nl_51, nl_52, nl_53, nl_54, nl_55, nl_56, nl_57, nl_58, nl_59, nl_60, nl_61, nl_62, nl_64, nl_65, nl_66, nl_67, nl_68, nl_69, nl_92, nl_97, nl_99, nl_100, nl_122, nl_127, nl_128, nl_131, nl_132, nl_150, nl_200, nl_255, nl_256, nl_300, nl_342, nl_380, nl_381, nl_400, nl_401, nl_420, nl_500, nl_600, nl_800, nl_999, nl_1000, nl_1023, nl_1024, nl_1200, nl_2048, nl_2100, nl_4096, nl_9999, nl_10000, nl_10240, nl_999999, nl_1000000, if_pos, if_neg, h0, h1]
      · rw [xg279, g279_0, s_isIn]
        simp (disch := omega) only [↓reduceIte, Bool.false_eq_true, eq_self, mj_10, mj_01, mj_n10, mj_0n1, mj_1n1, mj_n11, mj_bi_some, mj_bv_some, mj_bj_some, mj_br_some, mj_r0, mj_r1, mj_q0, mj_q1, mj_b01, mj_q2, if_true, if_false, mj_it, mj_if, true_and, and_true, false_and, and_false, not_true_eq_false, not_false_eq_true, true_or, or_true, false_or, or_false, mj_nIle, mj_nIlt, mj_nIeq, mj_nI0, mj_nIc, mj_nIadd, mj_nIs, mj_ez, mj_ze, mj_eo, mj_ltz, mj_lez, mj_zlt, mj_olt, mj_lto, mj_leo, mj_ole, mj_nIn, mj_nnI, nl_2, nl_3, nl_4, nl_5, nl_6, nl_7, nl_8, nl_9, nl_10, nl_11, nl_12, nl_13, nl_14, nl_15, nl_16, nl_17, nl_18, nl_19, nl_20, nl_21, nl_22, nl_23, nl_24, nl_25, nl_26, nl_27, nl_28, nl_29, nl_30, nl_32, nl_33, nl_34, nl_35, nl_36, nl_37, nl_38, nl_39, nl_40, nl_41, nl_42, nl_43, nl_44, nl_45, nl_46, nl_47, nl_48, nl_49, nl_50, nl_51, nl_52, nl_53, nl_54, nl_55, nl_56, nl_57, nl_58, nl_59, nl_60, nl_61, nl_62, nl_64, nl_65, nl_66, nl_67, nl_68, nl_69, nl_92, nl_97, nl_99, nl_100, nl_122, nl_127, nl_128, nl_131, nl_132, nl_150, nl_200, nl_255, nl_256, nl_300, nl_342, nl_380, nl_381, nl_400, nl_401, nl_420, nl_500, nl_600, nl_800, nl_999, nl_1000, nl_1023, nl_1024, nl_1200, nl_2048, nl_2100, nl_4096, nl_9999, nl_10000, nl_10240, nl_999999, nl_1000000, if_pos, if_neg, hin, g279_12]
