theorem s_two {E : mj_E} {d w c : Nat} {hi : mj_HI} {hl : Nat → Nat → Int64} {op mo a b : Int32} (h : (op = 11 ∧ mo = 2) ∨ (op = 12 ∧ mo = 3) ∨ (op = 13 ∧ mo = 4) ∨ (op = 15 ∧ mo = 6) ∨ (op = 16 ∧ mo = 7) ∨ (op = 17 ∧ mo = 8) ∨ ((op = 19 ∧ mo = 10 ∨ op = 20 ∧ mo = 11) ∧ (a = 0 ∨ a = 1) ∧ (b = 0 ∨ b = 1))) : mj_dc mj_P E (d + 1) 211 [.ref 205, .int mo, .int a, .int b] (mj_hw w c hi hl) = some (some (.int (wv_b op a b)), mj_hw w c hi hl) := by
  rcases h with ⟨rfl, rfl⟩ | ⟨rfl, rfl⟩ | ⟨rfl, rfl⟩ | ⟨rfl, rfl⟩ | ⟨rfl, rfl⟩ | ⟨rfl, rfl⟩ | ⟨⟨rfl, rfl⟩ | ⟨rfl, rfl⟩, ha, hb⟩
  · rw [e211, q211_0, if_neg (by decide)]; rfl
  · rw [e211, q211_0, if_pos (by decide), q211_9, if_neg (by decide)]; rfl
  · rw [e211, q211_0, if_pos (by decide), q211_9, if_pos (by decide), q211_18, if_neg (by decide)]; rfl
  · rw [e211, q211_0, if_pos (by decide), q211_9, if_pos (by decide), q211_18, if_pos (by decide), q211_27, if_pos (by decide), q211_36, if_neg (by decide)]
    show _ = some (some (Value.int (if b ≤ a then 0 else 1)), _)
    split
    · rw [q211_51, q211_52]
    · rw [q211_52]
  · rw [e211, q211_0, if_pos (by decide), q211_9, if_pos (by decide), q211_18, if_pos (by decide), q211_27, if_pos (by decide), q211_36, if_pos (by decide), q211_53, if_neg (by decide)]
    show _ = some (some (Value.int (if ¬ a = b then 0 else 1)), _)
    split
    · rw [q211_68, q211_69]
    · rw [q211_69]
  · rw [e211, q211_0, if_pos (by decide), q211_9, if_pos (by decide), q211_18, if_pos (by decide), q211_27, if_pos (by decide), q211_36, if_pos (by decide), q211_53, if_pos (by decide), q211_70, if_neg (by decide)]
    show _ = some (some (Value.int (if a ≤ b then 0 else 1)), _)
    split
    · rw [q211_85, q211_86]
    · rw [q211_86]
  · rw [e211, q211_0, if_pos (by decide), q211_9, if_pos (by decide), q211_18, if_pos (by decide), q211_27, if_pos (by decide), q211_36, if_pos (by decide), q211_53, if_pos (by decide), q211_70, if_pos (by decide), q211_87, if_neg (by decide), q211_110]
    rcases ha with rfl | rfl <;> rcases hb with rfl | rfl <;> rfl
  · rw [e211, q211_0, if_pos (by decide), q211_9, if_pos (by decide), q211_18, if_pos (by decide), q211_27, if_pos (by decide), q211_36, if_pos (by decide), q211_53, if_pos (by decide), q211_70, if_pos (by decide), q211_87, if_pos (by decide), q211_99]
    rcases ha with rfl | rfl <;> rcases hb with rfl | rfl
    · rw [if_pos (by decide), q211_109, q211_110]; rfl
    · rw [if_neg (by decide), q211_110]; rfl
    · rw [if_neg (by decide), q211_110]; rfl
    · rw [if_neg (by decide), q211_110]; rfl
theorem s_div {E : mj_E} {d w c : Nat} {hi : mj_HI} {hl : Nat → Nat → Int64} {a b : Int32} (h : ¬ b = 0) : mj_dc mj_P E (d + 1) 211 [.ref 205, .int 5, .int a, .int b] (mj_hw w c hi hl) = some (some (.int (a / b)), mj_hw w c hi hl) := by
  rw [e211, q211_0, if_pos (by decide), q211_9, if_pos (by decide), q211_18, if_pos (by decide), q211_27, if_neg (by decide), if_neg h]
theorem wv_z (x : Int32) : nI 400 * 0 + x = x := by
  rw [show nI 400 * (0 : Int32) = 0 by decide, Int32.zero_add]
/-- a push in the reference -/
theorem s_push {E : mj_E} {d w c : Nat} {hi : mj_HI} {hl : Nat → Nat → Int64} {p e : Nat} {v2 x : Int32} {st : List Int32} (hpe : p < e) (he : e ≤ 400) (hst : st.length ≤ 40) (ha : wv_at (hi 228) st) (hx : (hi 221 p = 0 ∧ hi 222 p = x) ∨ (hi 221 p = 1 ∧ ∃ o, o < 10 ∧ hi 222 p = nI o ∧ hi 227 o = x)) : ∃ hi', mj_den mj_P E (d + 1) 212 12 [.ref 205, .int 0, .int v2, .int (nI e), .int (nI st.length), .int (nI p)] [] (mj_hw w c hi hl) = mj_den mj_P E (d + 1) 212 12 [.ref 205, .int 0, .int v2, .int (nI e), .int (nI (x :: st).length), .int (nI (p + 1))] [] (mj_hw w c hi' hl) ∧ wv_at (hi' 228) (x :: st) ∧ (∀ a k, a ≠ 228 → hi' a k = hi a k) := by
  refine ⟨mj_u hi 228 st.length x, ?_, ⟨mj_u_eq, wv_at_congr (fun k hk => mj_u_pt (by omega)) ha⟩, fun a k h => mj_u_pt (by omega)⟩
  rw [q212_12]
  rcases hx with ⟨h1, h2⟩ | ⟨h1, o, h3, h4, h5⟩
  · simp (disch := omega) only [↓reduceIte, Bool.false_eq_true, eq_self, mj_10, mj_01, mj_n10, mj_0n1, mj_1n1, mj_n11, mj_bi_some, mj_bv_some, mj_bj_some, mj_br_some, mj_r0, mj_r1, mj_q0, mj_q1, mj_b01, mj_q2, if_true, if_false, mj_it, mj_if, true_and, and_true, false_and, and_false, not_true_eq_false, not_false_eq_true, true_or, or_true, false_or, or_false, mj_nIle, mj_nIlt, mj_nIeq, mj_nI0, mj_nIc, mj_nIadd, mj_nIs, mj_ez, mj_ze, mj_eo, mj_ltz, mj_lez, mj_zlt, mj_olt, mj_lto, mj_leo, mj_ole, mj_nIn, mj_nnI, nl_2, nl_3, nl_4, nl_5, nl_6, nl_7, nl_8, nl_9, nl_10, nl_11, nl_12, nl_13, nl_14, nl_15, nl_16, nl_17, nl_18, nl_19, nl_20, nl_21, nl_22, nl_23, nl_24, nl_25, nl_26, nl_27, nl_28, nl_29, nl_30, nl_32, nl_33, nl_34, nl_35, nl_36, nl_37, nl_38, nl_39, nl_40, nl_41, nl_42, nl_43, nl_44, nl_45, nl_46, nl_47, nl_48, nl_49, nl_50, nl_51, nl_52, nl_53, nl_54, nl_55, nl_56, nl_57, nl_58, nl_59, nl_60, nl_61, nl_62, nl_64, nl_65, nl_66, nl_67, nl_68, nl_69, nl_92, nl_97, nl_99, nl_100, nl_122, nl_127, nl_128, nl_131, nl_132, nl_150, nl_200, nl_255, nl_256, nl_300, nl_342, nl_380, nl_381, nl_400, nl_401, nl_420, nl_500, nl_600, nl_800, nl_999, nl_1000, nl_1023, nl_1024, nl_1200, nl_2048, nl_2100, nl_4096, nl_9999, nl_10000, nl_10240, nl_999999, nl_1000000, if_pos, if_neg, wv_z, h1, h2, q212_45, q212_83, q212_170, List.length_cons]
  · simp (disch := omega) only [↓reduceIte, Bool.false_eq_true, eq_self, mj_10, mj_01, mj_n10, mj_0n1, mj_1n1, mj_n11, mj_bi_some, mj_bv_some, mj_bj_some, mj_br_some, mj_r0, mj_r1, mj_q0, mj_q1, mj_b01, mj_q2, if_true, if_false, mj_it, mj_if, true_and, and_true, false_and, and_false, not_true_eq_false, not_false_eq_true, true_or, or_true, false_or, or_false, mj_nIle, mj_nIlt, mj_nIeq, mj_nI0, mj_nIc, mj_nIadd, mj_nIs, mj_ez, mj_ze, mj_eo, mj_ltz, mj_lez, mj_zlt, mj_olt, mj_lto, mj_leo, mj_ole, mj_nIn, mj_nnI, nl_2, nl_3, nl_4, nl_5, nl_6, nl_7, nl_8, nl_9, nl_10, nl_11, nl_12, nl_13, nl_14, nl_15, nl_16, nl_17, nl_18, nl_19, nl_20, nl_21, nl_22, nl_23, nl_24, nl_25, nl_26, nl_27, nl_28, nl_29, nl_30, nl_32, nl_33, nl_34, nl_35, nl_36, nl_37, nl_38, nl_39, nl_40, nl_41, nl_42, nl_43, nl_44, nl_45, nl_46, nl_47, nl_48, nl_49, nl_50, nl_51, nl_52, nl_53, nl_54, nl_55, nl_56, nl_57, nl_58, nl_59, nl_60, nl_61, nl_62, nl_64, nl_65, nl_66, nl_67, nl_68, nl_69, nl_92, nl_97, nl_99, nl_100, nl_122, nl_127, nl_128, nl_131, nl_132, nl_150, nl_200, nl_255, nl_256, nl_300, nl_342, nl_380, nl_381, nl_400, nl_401, nl_420, nl_500, nl_600, nl_800, nl_999, nl_1000, nl_1023, nl_1024, nl_1200, nl_2048, nl_2100, nl_4096, nl_9999, nl_10000, nl_10240, nl_999999, nl_1000000, if_pos, if_neg, wv_z, h1, h4, h5, q212_45, q212_71, q212_83, q212_170, List.length_cons]
theorem s_bin {E : mj_E} {d w c : Nat} {hi : mj_HI} {hl : Nat → Nat → Int64} {p e : Nat} {v2 x y z mo : Int32} {st : List Int32} (hpe : p < e) (he : e ≤ 400) (hst : st.length ≤ 40) (ha : wv_at (hi 228) (y :: x :: st)) (hmo : hi 221 p = mo) (h0 : ¬ mo = 0 ∧ ¬ mo = 1 ∧ ¬ mo = 9) (hz : ∀ g : mj_HI, mj_dc mj_P E (d + 1) 211 [.ref 205, .int mo, .int x, .int y] (mj_hw w c g hl) = some (some (.int z), mj_hw w c g hl)) : ∃ hi', mj_den mj_P E (d + 1) 212 12 [.ref 205, .int 0, .int v2, .int (nI e), .int (nI (y :: x :: st).length), .int (nI p)] [] (mj_hw w c hi hl) = mj_den mj_P E (d + 1) 212 12 [.ref 205, .int 0, .int v2, .int (nI e), .int (nI (z :: st).length), .int (nI (p + 1))] [] (mj_hw w c hi' hl) ∧ wv_at (hi' 228) (z :: st) ∧ (∀ a k, a ≠ 228 → hi' a k = hi a k) := by
  refine ⟨mj_u hi 228 st.length z, ?_, ⟨mj_u_eq, wv_at_congr (fun k hk => mj_u_pt (by omega)) ha.2.2⟩, fun a k h => mj_u_pt (by omega)⟩
  have hx : hi 228 st.length = x := ha.2.1
  have hy : hi 228 (st.length + 1) = y := ha.1
  have hm : nI (st.length + 1 + 1) - (1 : Int32) = nI (st.length + 1) := by rw [mj_nIp (by omega)]; rfl
  have hm2 : nI (st.length + 1) - (1 : Int32) = nI st.length := by rw [mj_nIp (by omega)]; rfl
  obtain ⟨h1, h2, h3⟩ := h0
  have h3' : ¬ mo = nI 9 := h3
  rw [q212_12]
  simp (disch := omega) only [↓reduceIte, Bool.false_eq_true, eq_self, mj_10, mj_01, mj_n10, mj_0n1, mj_1n1, mj_n11, mj_bi_some, mj_bv_some, mj_bj_some, mj_br_some, mj_r0, mj_r1, mj_q0, mj_q1, mj_b01, mj_q2, if_true, if_false, mj_it, mj_if, true_and, and_true, false_and, and_false, not_true_eq_false, not_false_eq_true, true_or, or_true, false_or, or_false, mj_nIle, mj_nIlt, mj_nIeq, mj_nI0, mj_nIc, mj_nIadd, mj_nIs, mj_ez, mj_ze, mj_eo, mj_ltz, mj_lez, mj_zlt, mj_olt, mj_lto, mj_leo, mj_ole, mj_nIn, mj_nnI, nl_2, nl_3, nl_4, nl_5, nl_6, nl_7, nl_8, nl_9, nl_10, nl_11, nl_12, nl_13, nl_14, nl_15, nl_16, nl_17, nl_18, nl_19, nl_20, nl_21, nl_22, nl_23, nl_24, nl_25, nl_26, nl_27, nl_28, nl_29, nl_30, nl_32, nl_33, nl_34, nl_35, nl_36, nl_37, nl_38, nl_39, nl_40, nl_41, nl_42, nl_43, nl_44, nl_45, nl_46, nl_47, nl_48, nl_49, nl_50, nl_51, nl_52, nl_53, nl_54, nl_55, nl_56, nl_57, nl_58, nl_59, nl_60, nl_61, nl_62, nl_64, nl_65, nl_66, nl_67, nl_68, nl_69, nl_92, nl_97, nl_99, nl_100, nl_122, nl_127, nl_128, nl_131, nl_132, nl_150, nl_200, nl_255, nl_256, nl_300, nl_342, nl_380, nl_381, nl_400, nl_401, nl_420, nl_500, nl_600, nl_800, nl_999, nl_1000, nl_1023, nl_1024, nl_1200, nl_2048, nl_2100, nl_4096, nl_9999, nl_10000, nl_10240, nl_999999, nl_1000000, if_pos, if_neg, wv_z, hmo, h1, h2, h3', q212_93, q212_128, hm, hm2, hx, hy, hz, q212_169, q212_170, List.length_cons]
theorem s_v212 {E : mj_E} {d w c : Nat} {hi : mj_HI} {hl : Nat → Nat → Int64} {p e : Nat} {v2 op arg : Int32} {st : List Int32} {ts us : List Bool} {val : Nat → Int32} (hc : iv_cor op arg (hi 221) (hi 222) p) (hpe : p + 1 + (if op = 14 then 1 else 0) ≤ e) (he : e ≤ 400) (ht : iv_ty op ts = some us) (h32 : ts.length ≤ 32) (ho : wv_ok ts st) (ha : wv_at (hi 228) st) (hv : ∀ k, k < 10 → hi 227 k = val k) : ∃ hi', mj_den mj_P E (d + 1) 212 12 [.ref 205, .int 0, .int v2, .int (nI e), .int (nI st.length), .int (nI p)] [] (mj_hw w c hi hl) = mj_den mj_P E (d + 1) 212 12 [.ref 205, .int 0, .int v2, .int (nI e), .int (nI (wv_op val op arg st).length), .int (nI (p + 1 + (if op = 14 then 1 else 0)))] [] (mj_hw w c hi' hl) ∧ wv_at (hi' 228) (wv_op val op arg st) ∧ (∀ a k, a ≠ 228 → hi' a k = hi a k) := by
  have hlen := wv_ok_len ho
  rcases hc with ⟨x, hx, rfl, h1, h2⟩ | ⟨rfl, h1, h2⟩ | ⟨rfl, h1, h2, h3, h4⟩ | hc
  · have hw1 : wv_op val (nI x) arg st = val x :: st := by
      have : x = 0 ∨ x = 1 ∨ x = 2 ∨ x = 3 ∨ x = 4 ∨ x = 5 ∨ x = 6 ∨ x = 7 ∨ x = 8 ∨ x = 9 := by omega
      rcases this with rfl | rfl | rfl | rfl | rfl | rfl | rfl | rfl | rfl | rfl <;> rfl
    have hne : ¬ nI x = 14 := by rw [show (14 : Int32) = nI 14 from rfl, mj_nIeq (by omega) (by omega)]; omega
    rw [hw1, if_neg hne]
    rw [if_neg hne] at hpe
    exact s_push (by omega) he (by omega) ha (Or.inr ⟨h1, x, hx, h2, hv x hx⟩)
  · rw [if_neg (by decide : ¬ (10 : Int32) = 14)] at hpe ⊢
    exact s_push (by omega) he (by omega) ha (Or.inl ⟨h1, h2⟩)
  · rw [if_pos rfl] at hpe ⊢
    rcases wv_cases ht with ⟨z1, z2, _⟩ | ⟨z, _⟩ | ⟨_, r, rfl, rfl⟩ | ⟨z | z | z, _⟩ | ⟨z | z | z, _⟩ | ⟨z | z, _⟩
    · exact absurd z2 (by decide)
    · exact absurd z (by decide)
    · obtain ⟨x, s, rfl, p1, p2⟩ := wv_i1 ho
      have hls : s.length + 1 ≤ 32 := by simp only [List.length_cons] at hlen h32; omega
      obtain ⟨g1, e1, a1, f1⟩ := s_push (E := E) (d := d) (w := w) (c := c) (hi := hi) (hl := hl) (p := p) (e := e) (v2 := v2) (x := arg) (st := x :: s) (by omega) he (by simp only [List.length_cons]; omega) ha (Or.inl ⟨h1, h2⟩)
      obtain ⟨g2, e2, a2, f2⟩ := s_bin (E := E) (d := d) (w := w) (c := c) (hi := g1) (hl := hl) (p := p + 1) (e := e) (v2 := v2) (x := x) (y := arg) (z := x / arg) (mo := 5) (st := s) (by omega) he (by omega) a1 (by rw [f1 _ _ (by omega)]; exact h4) (by decide) (fun g => s_div h3)
      exact ⟨g2, e1.trans e2, a2, fun a k h => by rw [f2 _ _ h, f1 _ _ h]⟩
    all_goals exact absurd z (by decide)
  · have hop : (op = 18 ∧ hi 221 p = 9) ∨ ((op = 11 ∧ hi 221 p = 2) ∨ (op = 12 ∧ hi 221 p = 3) ∨ (op = 13 ∧ hi 221 p = 4) ∨ (op = 15 ∧ hi 221 p = 6) ∨ (op = 16 ∧ hi 221 p = 7) ∨ (op = 17 ∧ hi 221 p = 8) ∨ (op = 19 ∧ hi 221 p = 10) ∨ (op = 20 ∧ hi 221 p = 11)) := by
      rcases hc with h | h | h | h | h | h | h | h | h
      · exact Or.inr (Or.inl h)
      · exact Or.inr (Or.inr (Or.inl h))
      · exact Or.inr (Or.inr (Or.inr (Or.inl h)))
      · exact Or.inr (Or.inr (Or.inr (Or.inr (Or.inl h))))
      · exact Or.inr (Or.inr (Or.inr (Or.inr (Or.inr (Or.inl h)))))
      · exact Or.inr (Or.inr (Or.inr (Or.inr (Or.inr (Or.inr (Or.inl h))))))
      · exact Or.inl h
      · exact Or.inr (Or.inr (Or.inr (Or.inr (Or.inr (Or.inr (Or.inr (Or.inl h)))))))
      · exact Or.inr (Or.inr (Or.inr (Or.inr (Or.inr (Or.inr (Or.inr (Or.inr h)))))))
    rcases hop with ⟨rfl, h9⟩ | hop
    · rw [if_neg (by decide : ¬ (18 : Int32) = 14)] at hpe ⊢
      rcases wv_cases ht with ⟨z1, z2, _⟩ | ⟨_, r, rfl, rfl⟩ | ⟨z, _⟩ | ⟨z | z | z, _⟩ | ⟨z | z | z, _⟩ | ⟨z | z, _⟩
      · exact absurd z2 (by decide)
      · obtain ⟨x, s, rfl, p1, p2⟩ := wv_i1 ho
        have hls : s.length < 32 := by simp only [List.length_cons] at hlen h32; omega
        have hx : hi 228 s.length = x := ha.1
        have hm : nI (s.length + 1) - (1 : Int32) = nI s.length := by rw [mj_nIp (by omega)]; rfl
        refine ⟨mj_u hi 228 s.length (1 - x), ?_, ⟨mj_u_eq, wv_at_congr (fun k hk => mj_u_pt (by omega)) ha.2⟩, fun a k h => mj_u_pt (by omega)⟩
        show _ = mj_den mj_P E (d + 1) 212 12 [.ref 205, .int 0, .int v2, .int (nI e), .int (nI (s.length + 1)), .int (nI (p + 1 + 0))] [] _
        rw [q212_12]
        simp (disch := omega) only [↓reduceIte, Bool.false_eq_true, eq_self, mj_10, mj_01, mj_n10, mj_0n1, mj_1n1, mj_n11, mj_bi_some, mj_bv_some, mj_bj_some, mj_br_some, mj_r0, mj_r1, mj_q0, mj_q1, mj_b01, mj_q2, if_true, if_false, mj_it, mj_if, true_and, and_true, false_and, and_false, not_true_eq_false, not_false_eq_true, true_or, or_true, false_or, or_false, mj_nIle, mj_nIlt, mj_nIeq, mj_nI0, mj_nIc, mj_nIadd, mj_nIs, mj_ez, mj_ze, mj_eo, mj_ltz, mj_lez, mj_zlt, mj_olt, mj_lto, mj_leo, mj_ole, mj_nIn, mj_nnI, nl_2, nl_3, nl_4, nl_5, nl_6, nl_7, nl_8, nl_9, nl_10, nl_11, nl_12, nl_13, nl_14, nl_15, nl_16, nl_17, nl_18, nl_19, nl_20, nl_21, nl_22, nl_23, nl_24, nl_25, nl_26, nl_27, nl_28, nl_29, nl_30, nl_32, nl_33, nl_34, nl_35, nl_36, nl_37, nl_38, nl_39, nl_40, nl_41, nl_42, nl_43, nl_44, nl_45, nl_46, nl_47, nl_48, nl_49, nl_50, nl_51, nl_52, nl_53, nl_54, nl_55, nl_56, nl_57, nl_58, nl_59, nl_60, nl_61, nl_62, nl_64, nl_65, nl_66, nl_67, nl_68, nl_69, nl_92, nl_97, nl_99, nl_100, nl_122, nl_127, nl_128, nl_131, nl_132, nl_150, nl_200, nl_255, nl_256, nl_300, nl_342, nl_380, nl_381, nl_400, nl_401, nl_420, nl_500, nl_600, nl_800, nl_999, nl_1000, nl_1023, nl_1024, nl_1200, nl_2048, nl_2100, nl_4096, nl_9999, nl_10000, nl_10240, nl_999999, nl_1000000, if_pos, if_neg, wv_z, h9, q212_93, hm, hx, q212_170, List.length_cons, Nat.add_zero]
      all_goals exact absurd z (by decide)
    · have hn14 : ¬ op = 14 := by rcases hop with ⟨rfl, _⟩ | ⟨rfl, _⟩ | ⟨rfl, _⟩ | ⟨rfl, _⟩ | ⟨rfl, _⟩ | ⟨rfl, _⟩ | ⟨rfl, _⟩ | ⟨rfl, _⟩ <;> decide
      rw [if_neg hn14] at hpe ⊢
      have hmo : ¬ hi 221 p = 0 ∧ ¬ hi 221 p = 1 ∧ ¬ hi 221 p = 9 := by rcases hop with ⟨_, h⟩ | ⟨_, h⟩ | ⟨_, h⟩ | ⟨_, h⟩ | ⟨_, h⟩ | ⟨_, h⟩ | ⟨_, h⟩ | ⟨_, h⟩ <;> rw [h] <;> decide
      have hsh : ∃ y x s, st = y :: x :: s ∧ s.length ≤ 40 ∧ (op = 19 ∨ op = 20 → (x = 0 ∨ x = 1) ∧ (y = 0 ∨ y = 1)) := by
        rcases wv_cases ht with ⟨z1, z2, _⟩ | ⟨z, _⟩ | ⟨z, _⟩ | ⟨h1, r, rfl, rfl⟩ | ⟨h1, r, rfl, rfl⟩ | ⟨h1, r, rfl, rfl⟩
        · exfalso
          rcases hop with ⟨rfl, _⟩ | ⟨rfl, _⟩ | ⟨rfl, _⟩ | ⟨rfl, _⟩ | ⟨rfl, _⟩ | ⟨rfl, _⟩ | ⟨rfl, _⟩ | ⟨rfl, _⟩ <;> exact absurd z2 (by decide)
        · exfalso
          subst z
          rcases hop with ⟨h, _⟩ | ⟨h, _⟩ | ⟨h, _⟩ | ⟨h, _⟩ | ⟨h, _⟩ | ⟨h, _⟩ | ⟨h, _⟩ | ⟨h, _⟩ <;> exact absurd h (by decide)
        · exact absurd z hn14
        · obtain ⟨y, x, s, rfl, p1, p2, p3⟩ := wv_i2 ho
          refine ⟨y, x, s, rfl, by simp only [List.length_cons] at hlen h32; omega, fun z => ?_⟩
          exfalso
          rcases h1 with rfl | rfl | rfl <;> rcases z with z | z <;> exact absurd z (by decide)
        · obtain ⟨y, x, s, rfl, p1, p2, p3⟩ := wv_i2 ho
          refine ⟨y, x, s, rfl, by simp only [List.length_cons] at hlen h32; omega, fun z => ?_⟩
          exfalso
          rcases h1 with rfl | rfl | rfl <;> rcases z with z | z <;> exact absurd z (by decide)
        · obtain ⟨y, x, s, rfl, p1, p2, p3⟩ := wv_i2 ho
          exact ⟨y, x, s, rfl, by simp only [List.length_cons] at hlen h32; omega, fun _ => ⟨p2 rfl, p1 rfl⟩⟩
      obtain ⟨y, x, s, rfl, hs40, hb⟩ := hsh
      have hw2 : wv_op val op arg (y :: x :: s) = wv_b op x y :: s := by
        rcases hop with ⟨rfl, _⟩ | ⟨rfl, _⟩ | ⟨rfl, _⟩ | ⟨rfl, _⟩ | ⟨rfl, _⟩ | ⟨rfl, _⟩ | ⟨rfl, _⟩ | ⟨rfl, _⟩ <;> rfl
      rw [hw2]
      refine s_bin (mo := hi 221 p) (by omega) he hs40 ha rfl hmo (fun g => s_two ?_)
      rcases hop with h | h | h | h | h | h | h | h
      · exact Or.inl h
      · exact Or.inr (Or.inl h)
      · exact Or.inr (Or.inr (Or.inl h))
      · exact Or.inr (Or.inr (Or.inr (Or.inl h)))
      · exact Or.inr (Or.inr (Or.inr (Or.inr (Or.inl h))))
      · exact Or.inr (Or.inr (Or.inr (Or.inr (Or.inr (Or.inl h)))))
      · exact Or.inr (Or.inr (Or.inr (Or.inr (Or.inr (Or.inr ⟨Or.inl h, hb (Or.inl h.1)⟩)))))
      · exact Or.inr (Or.inr (Or.inr (Or.inr (Or.inr (Or.inr ⟨Or.inr h, hb (Or.inr h.1)⟩)))))
