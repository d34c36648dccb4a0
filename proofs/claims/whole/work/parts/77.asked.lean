def wl_cl (x lim : Int32) : Int32 := if 0 ≤ x then (if x ≤ lim then x else lim) else 0
theorem wl_cl_eq {x lim : Int32} (h : 0 < lim) : (if 0 < (if x < lim then x else lim) then (if x < lim then x else lim) else 0) = wl_cl x lim := by
  unfold wl_cl
  by_cases h1 : x < lim
  · rw [if_pos h1, if_pos (Int32.le_of_lt h1)]
    by_cases h2 : 0 < x
    · rw [if_pos h2, if_pos (Int32.le_of_lt h2)]
    · rw [if_neg h2]
      by_cases h3 : 0 ≤ x
      · rw [if_pos h3]; exact Int32.le_antisymm h3 (Int32.not_lt.mp h2)
      · rw [if_neg h3]
  · rw [if_neg h1, if_pos h]
    have h2 : lim ≤ x := Int32.not_lt.mp h1
    rw [if_pos (Int32.le_trans (Int32.le_of_lt h) h2)]
    by_cases h3 : x ≤ lim
    · rw [if_pos h3]; exact Int32.le_antisymm h2 h3
    · rw [if_neg h3]
theorem s_min2 {E : mj_E} {d w c : Nat} {hi : mj_HI} {hl : Nat → Nat → Int64} (a b : Int32) : mj_dc mj_P E (d + 1) 296 [.int a, .int b] (mj_hw w c hi hl) = some (some (.int (if b < a then b else a)), mj_hw w c hi hl) := by
  rw [e296, q296_0]
  by_cases h : b < a
  · rw [if_pos h, if_pos h, q296_9, q296_10]
  · rw [if_neg h, if_neg h, q296_10]
theorem s_max2 {E : mj_E} {d w c : Nat} {hi : mj_HI} {hl : Nat → Nat → Int64} (a b : Int32) : mj_dc mj_P E (d + 1) 295 [.int a, .int b] (mj_hw w c hi hl) = some (some (.int (if a < b then b else a)), mj_hw w c hi hl) := by
  rw [e295, q295_0]
  by_cases h : a < b
  · rw [if_pos h, if_pos h, q295_9, q295_10]
  · rw [if_neg h, if_neg h, q295_10]
theorem s_clamp {E : mj_E} {d w c : Nat} {hi : mj_HI} {hl : Nat → Nat → Int64} (x lim : Int32) : mj_dc mj_P E (d + 1) 153 [.ref 205, .int x, .int 0, .int lim] (mj_hw w c hi hl) = some (some (.int (wl_cl x lim)), mj_hw w c hi hl) := by
  rw [e153, q153_0]
  unfold wl_cl
  by_cases h : 0 ≤ x
  · rw [if_pos h, if_pos h, q153_9]
    by_cases h2 : x ≤ lim
    · rw [if_pos h2, if_pos h2, q153_18, q153_19]
    · rw [if_neg h2, if_neg h2, q153_19]
  · rw [if_neg h, if_neg h, q153_19]
def wl_v (a0 a1 a2 a3 a4 a5 a6 a7 a8 a9 : Int32) (k : Nat) : Int32 := match k with | 0 => a0 | 1 => a1 | 2 => a2 | 3 => a3 | 4 => a4 | 5 => a5 | 6 => a6 | 7 => a7 | 8 => a8 | _ => a9
def wl_20 (R : Nat) (h : mj_HI) (a0 a1 a2 a3 a4 a5 a6 a7 a8 a9 : Int32) : mj_HI := mj_u (mj_u (mj_u (mj_u (mj_u (mj_u (mj_u (mj_u (mj_u (mj_u h R 0 a0) R 1 a1) R 2 a2) R 3 a3) R 4 a4) R 5 a5) R 6 a6) R 7 a7) R 8 a8) R 9 a9
theorem wl_20_v (R : Nat) (h : mj_HI) (a0 a1 a2 a3 a4 a5 a6 a7 a8 a9 : Int32) : (∀ k, k < 10 → wl_20 R h a0 a1 a2 a3 a4 a5 a6 a7 a8 a9 R k = wl_v a0 a1 a2 a3 a4 a5 a6 a7 a8 a9 k) ∧ ∀ a k, a ≠ R → wl_20 R h a0 a1 a2 a3 a4 a5 a6 a7 a8 a9 a k = h a k := by
  unfold wl_20
  refine ⟨fun k hk => ?_, fun a k ha => ?_⟩
  · have : k = 0 ∨ k = 1 ∨ k = 2 ∨ k = 3 ∨ k = 4 ∨ k = 5 ∨ k = 6 ∨ k = 7 ∨ k = 8 ∨ k = 9 := by omega
    rcases this with rfl | rfl | rfl | rfl | rfl | rfl | rfl | rfl | rfl | rfl <;> simp (disch := omega) only [mj_u_pt, mj_u_eq] <;> rfl
  · simp (disch := omega) only [mj_u_pt]
def wl_lim (κ : Nat) : Int32 := ([1000, 9999, 99] : List Int32).getD κ 0
theorem s_dlR {E : mj_E} {d w c : Nat} {hi : mj_HI} {hl : Nat → Nat → Int64} {r n K : Nat} (hr : mj_Rm w c r) (hn : n ≤ 10) (hx : hi r 0 = nI n) (hK : K < n) : mj_dc mj_P E (d + 1) 70 [.ref r, .int (nI K)] (mj_hw w c hi hl) = some (some (.int 1), mj_hw w c hi hl) := by
  rw [xg70 E d r, g70_0 hr]
  simp (disch := omega) only [↓reduceIte, Bool.false_eq_true, eq_self, mj_10, mj_01, mj_n10, mj_0n1, mj_1n1, mj_n11, mj_bi_some, mj_bv_some, mj_bj_some, mj_br_some, mj_r0, mj_r1, mj_q0, mj_q1, mj_b01, mj_q2, if_true, if_false, mj_it, mj_if, true_and, and_true, false_and, and_false, not_true_eq_false, not_false_eq_true, true_or, or_true, false_or, or_false, mj_nIle, mj_nIlt, mj_nIeq, mj_nI0, mj_nIc, mj_nIadd, mj_nIs, mj_ez, mj_ze, mj_eo, mj_ltz, mj_lez, mj_zlt, mj_olt, mj_lto, mj_leo, mj_ole, mj_nIn, mj_nnI, nl_2, nl_3, nl_4, nl_5, nl_6, nl_7, nl_8, nl_9, nl_10, nl_11, nl_12, nl_13, nl_14, nl_15, nl_16, nl_17, nl_18, nl_19, nl_20, nl_21, nl_22, nl_23, nl_24, nl_25, nl_26, nl_27, nl_28, nl_29, nl_30, nl_32, nl_33, nl_34, nl_35, nl_36, nl_37, nl_38, nl_39, nl_40, nl_41, nl_42, nl_43, nl_44, nl_45, nl_46, nl_47, nl_48, nl_49, nl_50, nl_51, nl_52, nl_53, nl_54, nl_55, nl_56, nl_57, nl_58, nl_59, nl_60, nl_61, nl_62, nl_64, nl_65, nl_66, nl_67, nl_68, nl_69, nl_92, nl_97, nl_99, nl_100, nl_122, nl_127, nl_128, nl_131, nl_132, nl_150, nl_200, nl_255, nl_256, nl_300, nl_342, nl_380, nl_381, nl_400, nl_401, nl_420, nl_500, nl_600, nl_800, nl_999, nl_1000, nl_1023, nl_1024, nl_1200, nl_2048, nl_2100, nl_4096, nl_9999, nl_10000, nl_10240, nl_999999, nl_1000000, if_pos, if_neg, hx, g70_23 hr]
theorem s_ltR {E : mj_E} {d w c : Nat} {hi : mj_HI} {hl : Nat → Nat → Int64} {r n K : Nat} (hr : mj_Rm w c r) (hn : n ≤ 12) (hx : hi r 1 = nI n) (hK : K < n) : mj_dc mj_P E (d + 1) 71 [.ref r, .int (nI K)] (mj_hw w c hi hl) = some (some (.int 1), mj_hw w c hi hl) := by
  rw [xg71 E d r, g71_0 hr]
  simp (disch := omega) only [↓reduceIte, Bool.false_eq_true, eq_self, mj_10, mj_01, mj_n10, mj_0n1, mj_1n1, mj_n11, mj_bi_some, mj_bv_some, mj_bj_some, mj_br_some, mj_r0, mj_r1, mj_q0, mj_q1, mj_b01, mj_q2, if_true, if_false, mj_it, mj_if, true_and, and_true, false_and, and_false, not_true_eq_false, not_false_eq_true, true_or, or_true, false_or, or_false, mj_nIle, mj_nIlt, mj_nIeq, mj_nI0, mj_nIc, mj_nIadd, mj_nIs, mj_ez, mj_ze, mj_eo, mj_ltz, mj_lez, mj_zlt, mj_olt, mj_lto, mj_leo, mj_ole, mj_nIn, mj_nnI, nl_2, nl_3, nl_4, nl_5, nl_6, nl_7, nl_8, nl_9, nl_10, nl_11, nl_12, nl_13, nl_14, nl_15, nl_16, nl_17, nl_18, nl_19, nl_20, nl_21, nl_22, nl_23, nl_24, nl_25, nl_26, nl_27, nl_28, nl_29, nl_30, nl_32, nl_33, nl_34, nl_35, nl_36, nl_37, nl_38, nl_39, nl_40, nl_41, nl_42, nl_43, nl_44, nl_45, nl_46, nl_47, nl_48, nl_49, nl_50, nl_51, nl_52, nl_53, nl_54, nl_55, nl_56, nl_57, nl_58, nl_59, nl_60, nl_61, nl_62, nl_64, nl_65, nl_66, nl_67, nl_68, nl_69, nl_92, nl_97, nl_99, nl_100, nl_122, nl_127, nl_128, nl_131, nl_132, nl_150, nl_200, nl_255, nl_256, nl_300, nl_342, nl_380, nl_381, nl_400, nl_401, nl_420, nl_500, nl_600, nl_800, nl_999, nl_1000, nl_1023, nl_1024, nl_1200, nl_2048, nl_2100, nl_4096, nl_9999, nl_10000, nl_10240, nl_999999, nl_1000000, if_pos, if_neg, hx, g71_23 hr]
theorem wl_C_congr {h h' : mj_HI} {L len : Nat} {cb cw cc : Nat → Nat} (q : wl_C h L len cb cw cc) (e : ∀ a k, 13 ≤ a → a ≤ 19 → h' a k = h a k) : wl_C h' L len cb cw cc := by
  have e18 : h' 18 = h 18 := funext (fun k => e _ _ (by omega) (by omega))
  obtain ⟨a1, a2, a3, a4, a5⟩ := q
  refine ⟨a1, a2, by rw [e _ _ (by omega) (by omega)]; exact a3, fun j hj => by rw [e18, e 19 _ (by omega) (by omega)]; exact a4 j hj, fun i hi => ?_⟩
  rw [e18, e 15 _ (by omega) (by omega), e 16 _ (by omega) (by omega), e 17 _ (by omega) (by omega)]
  exact a5 i hi
theorem s_asked {E : mj_E} {d w c : Nat} {hi : mj_HI} {hl : Nat → Nat → Int64} {r n l K k κ L len : Nat} {cb cw cc : Nat → Nat} {v5 v6 v7 : Int32} (hE : mj_EK E) (hr : mj_Rm w c r) (hr2 : r = 2 ∨ r = 177) (n10 : n ≤ 10) (l12 : l ≤ 12) (hN : hi r 0 = nI n) (hL : hi r 1 = nI l) (hK : K < n) (hk : k < l) (hκ : κ < 3) (q : wl_C hi L len cb cw cc) : ∃ hi', mj_dc mj_P E (d + 4) 18 [.ref 13, .ref r, .int (nI κ), .int (nI K), .int (nI k), .int v5, .int v6, .int v7] (mj_hw w c hi hl) = some (some (.int (wl_cl (wl_a (wl_v (hi (r + 1) K) (hi (r + 2) K) (hi (r + 4) K) (hi (r + 6) K) (hi (r + 8) k) (hi (r + 9) k) v5 v6 (hi r 2) v7) (hi 18) (hi 19) (hi 14) cb cw cc (nI κ) 0 L (wl_df (wl_v (hi (r + 1) K) (hi (r + 2) K) (hi (r + 4) K) (hi (r + 6) K) (hi (r + 8) k) (hi (r + 9) k) v5 v6 (hi r 2) v7) (nI κ))) (wl_lim κ))), mj_hw w c hi' hl) ∧ ∀ a k, a ≠ 20 → a ≠ 21 → hi' a k = hi a k := by
  obtain ⟨L', xs, _, rfl⟩ := hE
  have E2a : (mj_Ee L' xs 2).1 = 3 := rfl
  have E2b : (mj_Ee L' xs 2).2 κ = wl_lim κ := rfl
  obtain ⟨p1, p2⟩ := wl_20_v 20 hi (hi (r + 1) K) (hi (r + 2) K) (hi (r + 4) K) (hi (r + 6) K) (hi (r + 8) k) (hi (r + 9) k) v5 v6 (hi r 2) v7
  generalize hval : wl_v (hi (r + 1) K) (hi (r + 2) K) (hi (r + 4) K) (hi (r + 6) K) (hi (r + 8) k) (hi (r + 9) k) v5 v6 (hi r 2) v7 = val at p1 ⊢
  have q' := wl_C_congr q (h' := wl_20 20 hi (hi (r + 1) K) (hi (r + 2) K) (hi (r + 4) K) (hi (r + 6) K) (hi (r + 8) k) (hi (r + 9) k) v5 v6 (hi r 2) v7) (fun a k h1 h2 => p2 a k (by omega))
  have f14 := funext (fun k => p2 14 k (by omega))
  have f18 := funext (fun k => p2 18 k (by omega))
  have f19 := funext (fun k => p2 19 k (by omega))
  generalize hH : wl_20 20 hi (hi (r + 1) K) (hi (r + 2) K) (hi (r + 4) K) (hi (r + 6) K) (hi (r + 8) k) (hi (r + 9) k) v5 v6 (hi r 2) v7 = H at p1 p2 q' f14 f18 f19
  obtain ⟨g, eg, pg⟩ := s_answer (E := mj_Ee L' xs) (d := d) (w := w) (c := c) (hl := hl) (κ := nI κ) q' p1 L 0 H (by omega) (fun _ _ _ => rfl)
  rw [f14, f18, f19] at eg
  refine ⟨g, ?_, fun a k h1 h2 => by rw [pg _ _ h2, p2 _ _ h1]⟩
  have eg2 : mj_den mj_P (mj_Ee L' xs) (d + 2) 19 2 [.ref 13, .int (nI κ), .int 0] [] (mj_hw w c H hl) = _ := eg
  have z0 : (0 : Int32).toNatClampNeg = 0 := by decide
  have z1 : (1 : Int32).toNatClampNeg = 1 := by decide
  have z00 : (0 : Int32) ≤ 0 := by decide
  have z01 : (0 : Int32) ≤ 1 := by decide
  rw [xg18 _ (d + 3) r, g18_0 hr, s_dlR (d := d + 2) hr n10 hN hK, mj_bi_some, g18_5 hr, if_neg (by decide), s_ltR (d := d + 2) hr l12 hL hk, mj_bi_some, g18_14 hr, if_neg (by decide), s_within (d := d + 2), mj_bi_some, g18_22 hr]
  have hb : mj_b (0 ≤ nI κ ∧ nI κ ≤ 2) = 1 := if_pos ⟨by rw [mj_nI0 (by omega)]; trivial, by rw [show (2 : Int32) = nI 2 from rfl, mj_nIle (by omega) (by omega)]; omega⟩
  rw [hb, if_pos (by decide), g18_27 hr]
  unfold wl_20 at hH
  simp (disch := omega) only [↓reduceIte, Bool.false_eq_true, eq_self, mj_10, mj_01, mj_n10, mj_0n1, mj_1n1, mj_n11, mj_bi_some, mj_bv_some, mj_bj_some, mj_br_some, mj_r0, mj_r1, mj_q0, mj_q1, mj_b01, mj_q2, if_true, if_false, mj_it, mj_if, true_and, and_true, false_and, and_false, not_true_eq_false, not_false_eq_true, true_or, or_true, false_or, or_false, mj_nIle, mj_nIlt, mj_nIeq, mj_nI0, mj_nIc, mj_nIadd, mj_nIs, mj_ez, mj_ze, mj_eo, mj_ltz, mj_lez, mj_zlt, mj_olt, mj_lto, mj_leo, mj_ole, mj_nIn, mj_nnI, nl_2, nl_3, nl_4, nl_5, nl_6, nl_7, nl_8, nl_9, nl_10, nl_11, nl_12, nl_13, nl_14, nl_15, nl_16, nl_17, nl_18, nl_19, nl_20, nl_21, nl_22, nl_23, nl_24, nl_25, nl_26, nl_27, nl_28, nl_29, nl_30, nl_32, nl_33, nl_34, nl_35, nl_36, nl_37, nl_38, nl_39, nl_40, nl_41, nl_42, nl_43, nl_44, nl_45, nl_46, nl_47, nl_48, nl_49, nl_50, nl_51, nl_52, nl_53, nl_54, nl_55, nl_56, nl_57, nl_58, nl_59, nl_60, nl_61, nl_62, nl_64, nl_65, nl_66, nl_67, nl_68, nl_69, nl_92, nl_97, nl_99, nl_100, nl_122, nl_127, nl_128, nl_131, nl_132, nl_150, nl_200, nl_255, nl_256, nl_300, nl_342, nl_380, nl_381, nl_400, nl_401, nl_420, nl_500, nl_600, nl_800, nl_999, nl_1000, nl_1023, nl_1024, nl_1200, nl_2048, nl_2100, nl_4096, nl_9999, nl_10000, nl_10240, nl_999999, nl_1000000, if_pos, if_neg, z0, z1, z00, z01, mj_u_pt, E2a, E2b]
  rw [hH, e19, q19_0, eg2, mj_bi_some, g18_150 hr, s_min2 (d := d + 2), mj_bi_some, g18_153 hr, s_max2 (d := d + 2), mj_bi_some, g18_156 hr, wl_cl_eq (by
    have : κ = 0 ∨ κ = 1 ∨ κ = 2 := by omega
    rcases this with rfl | rfl | rfl <;> decide)]
def wl_M (m : mj_HI) (ops args kd : Nat → Int32) (L len : Nat) (cb cw cc : Nat → Nat) : Prop := L ≤ 16 ∧ iv_ph ops len ≤ 400 ∧ m 216 0 = nI L ∧ (∀ j, j < len → iv_cor (ops j) (args j) (m 221) (m 222) (iv_ph ops j)) ∧ ∀ i, i < L → cb i ≤ cw i ∧ cw i ≤ cc i ∧ cc i ≤ len ∧ m 217 i = kd i ∧ m 218 i = nI (iv_ph ops (cb i)) ∧ m 219 i = nI (iv_ph ops (cw i)) ∧ m 220 i = nI (iv_ph ops (cc i)) ∧ iv_tys ops (cb i) (cw i - cb i) [] = some [false] ∧ (cw i = cc i ∨ iv_tys ops (cw i) (cc i - cw i) [] = some [true])
theorem wl_M_congr {m m' : mj_HI} {ops args kd : Nat → Int32} {L len : Nat} {cb cw cc : Nat → Nat} (q : wl_M m ops args kd L len cb cw cc) (e : ∀ a k, 216 ≤ a → a ≤ 222 → m' a k = m a k) : wl_M m' ops args kd L len cb cw cc := by
  have e1 : m' 221 = m 221 := funext (fun k => e _ _ (by omega) (by omega))
  have e2 : m' 222 = m 222 := funext (fun k => e _ _ (by omega) (by omega))
  obtain ⟨a1, a2, a3, a4, a5⟩ := q
  refine ⟨a1, a2, by rw [e _ _ (by omega) (by omega)]; exact a3, fun j hj => by rw [e1, e2]; exact a4 j hj, fun i hi => ?_⟩
  rw [e 217 _ (by omega) (by omega), e 218 _ (by omega) (by omega), e 219 _ (by omega) (by omega), e 220 _ (by omega) (by omega)]
  exact a5 i hi
def wl_o (o : Option Nat) : Int32 := match o with | some j => nI j | none => -1
theorem s_runs1 {E : mj_E} {d w c : Nat} {hl : Nat → Nat → Int64} {h0 : mj_HI} {ops args kd : Nat → Int32} {L len : Nat} {cb cw cc : Nat → Nat} {val : Nat → Int32} (q : wl_M h0 ops args kd L len cb cw cc) (hv : ∀ k, k < 10 → h0 227 k = val k) {f : mj_HI} (hf : ∀ a k, a ≠ 228 → f a k = h0 a k) {s m : Nat} {b : Bool} (hsm : s + m ≤ len) (ht : iv_tys ops s m [] = some [b]) : ∃ f', mj_dc mj_P E (d + 2) 212 [.ref 205, .int 0, .int (nI (iv_ph ops s)), .int (nI (iv_ph ops (s + m)))] (mj_hw w c f hl) = some (some (.int (wv_val val ops args s m)), mj_hw w c f' hl) ∧ ∀ a k, a ≠ 228 → f' a k = h0 a k := by
  have f1 : f 221 = h0 221 := funext (fun k => hf _ _ (by omega))
  have f2 : f 222 = h0 222 := funext (fun k => hf _ _ (by omega))
  have hm := iv_ph_m (ops := ops) hsm
  obtain ⟨f', e, p⟩ := s_runs (E := E) (d := d) (w := w) (c := c) (hi := f) (hl := hl) (i := s) (n := m) (b := b) (val := val) (ops := ops) (args := args) (by have := q.2.1; omega) (fun j h1 h2 => by rw [f1, f2]; exact q.2.2.2.1 j (by omega)) ht (fun k hk => by rw [hf _ _ (by omega)]; exact hv k hk)
  exact ⟨f', e, fun a k h => by rw [p _ _ h, hf _ _ h]⟩
theorem s_lineOf {E : mj_E} {d w c : Nat} {hl : Nat → Nat → Int64} {h0 : mj_HI} {ops args kd : Nat → Int32} {L len : Nat} {cb cw cc : Nat → Nat} {val : Nat → Int32} {κ : Int32} (q : wl_M h0 ops args kd L len cb cw cc) (hv : ∀ k, k < 10 → h0 227 k = val k) : ∀ (n i : Nat) (g : mj_HI), i + n = L → (∀ a k, a ≠ 228 → g a k = h0 a k) → ∃ g', mj_den mj_P E (d + 2) 213 2 [.ref 205, .int κ, .int (nI i)] [] (mj_hw w c g hl) = some (some (.int (wl_o (wl_x (wl_P val ops args kd cw cc κ) i n))), mj_hw w c g' hl) ∧ ∀ a k, a ≠ 228 → g' a k = h0 a k := by
  obtain ⟨L16, p400, hL, hcor, hq⟩ := id q
  have z0 : (0 : Int32).toNatClampNeg = 0 := by decide
  have z00 : (0 : Int32) ≤ 0 := by decide
  intro n
  induction n with
  | zero =>
    intro i g hin hg
    refine ⟨g, ?_, hg⟩
    have g216 : g 216 0 = nI L := by rw [hg _ _ (by omega)]; exact hL
    rw [q213_2]
    simp (disch := omega) only [↓reduceIte, Bool.false_eq_true, eq_self, mj_10, mj_01, mj_n10, mj_0n1, mj_1n1, mj_n11, mj_bi_some, mj_bv_some, mj_bj_some, mj_br_some, mj_r0, mj_r1, mj_q0, mj_q1, mj_b01, mj_q2, if_true, if_false, mj_it, mj_if, true_and, and_true, false_and, and_false, not_true_eq_false, not_false_eq_true, true_or, or_true, false_or, or_false, mj_nIle, mj_nIlt, mj_nIeq, mj_nI0, mj_nIc, mj_nIadd, mj_nIs, mj_ez, mj_ze, mj_eo, mj_ltz, mj_lez, mj_zlt, mj_olt, mj_lto, mj_leo, mj_ole, mj_nIn, mj_nnI, nl_2, nl_3, nl_4, nl_5, nl_6, nl_7, nl_8, nl_9, nl_10, nl_11, nl_12, nl_13, nl_14, nl_15, nl_16, nl_17, nl_18, nl_19, nl_20, nl_21, nl_22, nl_23, nl_24, nl_25, nl_26, nl_27, nl_28, nl_29, nl_30, nl_32, nl_33, nl_34, nl_35, nl_36, nl_37, nl_38, nl_39, nl_40, nl_41, nl_42, nl_43, nl_44, nl_45, nl_46, nl_47, nl_48, nl_49, nl_50, nl_51, nl_52, nl_53, nl_54, nl_55, nl_56, nl_57, nl_58, nl_59, nl_60, nl_61, nl_62, nl_64, nl_65, nl_66, nl_67, nl_68, nl_69, nl_92, nl_97, nl_99, nl_100, nl_122, nl_127, nl_128, nl_131, nl_132, nl_150, nl_200, nl_255, nl_256, nl_300, nl_342, nl_380, nl_381, nl_400, nl_401, nl_420, nl_500, nl_600, nl_800, nl_999, nl_1000, nl_1023, nl_1024, nl_1200, nl_2048, nl_2100, nl_4096, nl_9999, nl_10000, nl_10240, nl_999999, nl_1000000, if_pos, if_neg, z0, z00, g216, q213_65]
    rfl
  | succ n ih =>
    intro i g hin hg
    obtain ⟨b1, b2, b3, b4, b5, b6, b7, b8, b9⟩ := hq i (by omega)
    have g216 : g 216 0 = nI L := by rw [hg _ _ (by omega)]; exact hL
    have g217 : g 217 i = kd i := by rw [hg _ _ (by omega)]; exact b4
    have g219 : g 219 i = nI (iv_ph ops (cw i)) := by rw [hg _ _ (by omega)]; exact b6
    have g220 : g 220 i = nI (iv_ph ops (cc i)) := by rw [hg _ _ (by omega)]; exact b7
    have m1 := iv_ph_m (ops := ops) b2
    have m2 := iv_ph_m (ops := ops) b3
    have step : ∀ f : mj_HI, (∀ a k, a ≠ 228 → f a k = h0 a k) → wl_P val ops args kd cw cc κ i = false → ∃ g', mj_den mj_P E (d + 2) 213 59 [.ref 205, .int κ, .int (nI i)] [] (mj_hw w c f hl) = some (some (.int (wl_o (wl_x (wl_P val ops args kd cw cc κ) i (n + 1)))), mj_hw w c g' hl) ∧ ∀ a k, a ≠ 228 → g' a k = h0 a k := fun f hf hP => by
      obtain ⟨g', e, p⟩ := ih (i + 1) f (by omega) hf
      refine ⟨g', ?_, p⟩
      rw [show wl_x (wl_P val ops args kd cw cc κ) i (n + 1) = wl_x (wl_P val ops args kd cw cc κ) (i + 1) n from if_neg (by rw [hP]; decide), q213_59, mj_nIs]; exact e
    have hit : wl_P val ops args kd cw cc κ i = true → wl_o (wl_x (wl_P val ops args kd cw cc κ) i (n + 1)) = nI i := fun hP => by
      rw [show wl_x (wl_P val ops args kd cw cc κ) i (n + 1) = some i from if_pos hP]; rfl
    rw [q213_2]
    by_cases hk : kd i = κ
    · by_cases hwc : cw i = cc i
      · refine ⟨g, ?_, hg⟩
        rw [hit (decide_eq_true ⟨hk, Or.inl hwc⟩)]
        simp (disch := omega) only [↓reduceIte, Bool.false_eq_true, eq_self, mj_10, mj_01, mj_n10, mj_0n1, mj_1n1, mj_n11, mj_bi_some, mj_bv_some, mj_bj_some, mj_br_some, mj_r0, mj_r1, mj_q0, mj_q1, mj_b01, mj_q2, if_true, if_false, mj_it, mj_if, true_and, and_true, false_and, and_false, not_true_eq_false, not_false_eq_true, true_or, or_true, false_or, or_false, mj_nIle, mj_nIlt, mj_nIeq, mj_nI0, mj_nIc, mj_nIadd, mj_nIs, mj_ez, mj_ze, mj_eo, mj_ltz, mj_lez, mj_zlt, mj_olt, mj_lto, mj_leo, mj_ole, mj_nIn, mj_nnI, nl_2, nl_3, nl_4, nl_5, nl_6, nl_7, nl_8, nl_9, nl_10, nl_11, nl_12, nl_13, nl_14, nl_15, nl_16, nl_17, nl_18, nl_19, nl_20, nl_21, nl_22, nl_23, nl_24, nl_25, nl_26, nl_27, nl_28, nl_29, nl_30, nl_32, nl_33, nl_34, nl_35, nl_36, nl_37, nl_38, nl_39, nl_40, nl_41, nl_42, nl_43, nl_44, nl_45, nl_46, nl_47, nl_48, nl_49, nl_50, nl_51, nl_52, nl_53, nl_54, nl_55, nl_56, nl_57, nl_58, nl_59, nl_60, nl_61, nl_62, nl_64, nl_65, nl_66, nl_67, nl_68, nl_69, nl_92, nl_97, nl_99, nl_100, nl_122, nl_127, nl_128, nl_131, nl_132, nl_150, nl_200, nl_255, nl_256, nl_300, nl_342, nl_380, nl_381, nl_400, nl_401, nl_420, nl_500, nl_600, nl_800, nl_999, nl_1000, nl_1023, nl_1024, nl_1200, nl_2048, nl_2100, nl_4096, nl_9999, nl_10000, nl_10240, nl_999999, nl_1000000, if_pos, if_neg, z0, z00, g216, g217, g219, g220, hk, hwc, q213_57]
      · have hty := b9.resolve_left hwc
        obtain ⟨f, ef, pf⟩ := s_runs1 (E := E) (d := d) (w := w) (c := c) (hl := hl) q hv hg (s := cw i) (m := cc i - cw i) (b := true) (by omega) hty
        rw [show cw i + (cc i - cw i) = cc i by omega] at ef
        have hne : ¬ iv_ph ops (cw i) = iv_ph ops (cc i) := by omega
        by_cases hz : wv_val val ops args (cw i) (cc i - cw i) = 0
        · obtain ⟨g', e, p⟩ := step f pf (decide_eq_false (fun z => z.2.elim hwc (fun y => y hz)))
          refine ⟨g', ?_, p⟩
          rw [← e]
          simp (disch := omega) only [↓reduceIte, Bool.false_eq_true, eq_self, mj_10, mj_01, mj_n10, mj_0n1, mj_1n1, mj_n11, mj_bi_some, mj_bv_some, mj_bj_some, mj_br_some, mj_r0, mj_r1, mj_q0, mj_q1, mj_b01, mj_q2, if_true, if_false, mj_it, mj_if, true_and, and_true, false_and, and_false, not_true_eq_false, not_false_eq_true, true_or, or_true, false_or, or_false, mj_nIle, mj_nIlt, mj_nIeq, mj_nI0, mj_nIc, mj_nIadd, mj_nIs, mj_ez, mj_ze, mj_eo, mj_ltz, mj_lez, mj_zlt, mj_olt, mj_lto, mj_leo, mj_ole, mj_nIn, mj_nnI, nl_2, nl_3, nl_4, nl_5, nl_6, nl_7, nl_8, nl_9, nl_10, nl_11, nl_12, nl_13, nl_14, nl_15, nl_16, nl_17, nl_18, nl_19, nl_20, nl_21, nl_22, nl_23, nl_24, nl_25, nl_26, nl_27, nl_28, nl_29, nl_30, nl_32, nl_33, nl_34, nl_35, nl_36, nl_37, nl_38, nl_39, nl_40, nl_41, nl_42, nl_43, nl_44, nl_45, nl_46, nl_47, nl_48, nl_49, nl_50, nl_51, nl_52, nl_53, nl_54, nl_55, nl_56, nl_57, nl_58, nl_59, nl_60, nl_61, nl_62, nl_64, nl_65, nl_66, nl_67, nl_68, nl_69, nl_92, nl_97, nl_99, nl_100, nl_122, nl_127, nl_128, nl_131, nl_132, nl_150, nl_200, nl_255, nl_256, nl_300, nl_342, nl_380, nl_381, nl_400, nl_401, nl_420, nl_500, nl_600, nl_800, nl_999, nl_1000, nl_1023, nl_1024, nl_1200, nl_2048, nl_2100, nl_4096, nl_9999, nl_10000, nl_10240, nl_999999, nl_1000000, if_pos, if_neg, z0, z00, g216, g217, g219, g220, hk, hne, ef, q213_54, hz]
        · refine ⟨f, ?_, pf⟩
          rw [hit (decide_eq_true ⟨hk, Or.inr hz⟩)]
          simp (disch := omega) only [↓reduceIte, Bool.false_eq_true, eq_self, mj_10, mj_01, mj_n10, mj_0n1, mj_1n1, mj_n11, mj_bi_some, mj_bv_some, mj_bj_some, mj_br_some, mj_r0, mj_r1, mj_q0, mj_q1, mj_b01, mj_q2, if_true, if_false, mj_it, mj_if, true_and, and_true, false_and, and_false, not_true_eq_false, not_false_eq_true, true_or, or_true, false_or, or_false, mj_nIle, mj_nIlt, mj_nIeq, mj_nI0, mj_nIc, mj_nIadd, mj_nIs, mj_ez, mj_ze, mj_eo, mj_ltz, mj_lez, mj_zlt, mj_olt, mj_lto, mj_leo, mj_ole, mj_nIn, mj_nnI, nl_2, nl_3, nl_4, nl_5, nl_6, nl_7, nl_8, nl_9, nl_10, nl_11, nl_12, nl_13, nl_14, nl_15, nl_16, nl_17, nl_18, nl_19, nl_20, nl_21, nl_22, nl_23, nl_24, nl_25, nl_26, nl_27, nl_28, nl_29, nl_30, nl_32, nl_33, nl_34, nl_35, nl_36, nl_37, nl_38, nl_39, nl_40, nl_41, nl_42, nl_43, nl_44, nl_45, nl_46, nl_47, nl_48, nl_49, nl_50, nl_51, nl_52, nl_53, nl_54, nl_55, nl_56, nl_57, nl_58, nl_59, nl_60, nl_61, nl_62, nl_64, nl_65, nl_66, nl_67, nl_68, nl_69, nl_92, nl_97, nl_99, nl_100, nl_122, nl_127, nl_128, nl_131, nl_132, nl_150, nl_200, nl_255, nl_256, nl_300, nl_342, nl_380, nl_381, nl_400, nl_401, nl_420, nl_500, nl_600, nl_800, nl_999, nl_1000, nl_1023, nl_1024, nl_1200, nl_2048, nl_2100, nl_4096, nl_9999, nl_10000, nl_10240, nl_999999, nl_1000000, if_pos, if_neg, z0, z00, g216, g217, g219, g220, hk, hne, ef, q213_54, hz, q213_57]
    · obtain ⟨g', e, p⟩ := step g hg (decide_eq_false (fun z => hk z.1))
      refine ⟨g', ?_, p⟩
      rw [← e]
      simp (disch := omega) only [↓reduceIte, Bool.false_eq_true, eq_self, mj_10, mj_01, mj_n10, mj_0n1, mj_1n1, mj_n11, mj_bi_some, mj_bv_some, mj_bj_some, mj_br_some, mj_r0, mj_r1, mj_q0, mj_q1, mj_b01, mj_q2, if_true, if_false, mj_it, mj_if, true_and, and_true, false_and, and_false, not_true_eq_false, not_false_eq_true, true_or, or_true, false_or, or_false, mj_nIle, mj_nIlt, mj_nIeq, mj_nI0, mj_nIc, mj_nIadd, mj_nIs, mj_ez, mj_ze, mj_eo, mj_ltz, mj_lez, mj_zlt, mj_olt, mj_lto, mj_leo, mj_ole, mj_nIn, mj_nnI, nl_2, nl_3, nl_4, nl_5, nl_6, nl_7, nl_8, nl_9, nl_10, nl_11, nl_12, nl_13, nl_14, nl_15, nl_16, nl_17, nl_18, nl_19, nl_20, nl_21, nl_22, nl_23, nl_24, nl_25, nl_26, nl_27, nl_28, nl_29, nl_30, nl_32, nl_33, nl_34, nl_35, nl_36, nl_37, nl_38, nl_39, nl_40, nl_41, nl_42, nl_43, nl_44, nl_45, nl_46, nl_47, nl_48, nl_49, nl_50, nl_51, nl_52, nl_53, nl_54, nl_55, nl_56, nl_57, nl_58, nl_59, nl_60, nl_61, nl_62, nl_64, nl_65, nl_66, nl_67, nl_68, nl_69, nl_92, nl_97, nl_99, nl_100, nl_122, nl_127, nl_128, nl_131, nl_132, nl_150, nl_200, nl_255, nl_256, nl_300, nl_342, nl_380, nl_381, nl_400, nl_401, nl_420, nl_500, nl_600, nl_800, nl_999, nl_1000, nl_1023, nl_1024, nl_1200, nl_2048, nl_2100, nl_4096, nl_9999, nl_10000, nl_10240, nl_999999, nl_1000000, if_pos, if_neg, z0, z00, g216, g217, hk]
theorem s_lawTells {E : mj_E} {d w c : Nat} {hl : Nat → Nat → Int64} {h0 : mj_HI} {ops args kd : Nat → Int32} {L len : Nat} {cb cw cc : Nat → Nat} {val : Nat → Int32} {κ df lim : Int32} (q : wl_M h0 ops args kd L len cb cw cc) (hv : ∀ k, k < 10 → h0 227 k = val k) : ∃ g', mj_dc mj_P E (d + 4) 215 [.ref 205, .int κ, .int df, .int lim] (mj_hw w c h0 hl) = some (some (.int (wl_cl (wl_a val ops args kd cb cw cc κ 0 L df) lim)), mj_hw w c g' hl) ∧ ∀ a k, a ≠ 228 → g' a k = h0 a k := by
  obtain ⟨g, e, p⟩ := s_lineOf (E := E) (d := d) (w := w) (c := c) (hl := hl) (κ := κ) q hv L 0 h0 (by omega) (fun _ _ _ => rfl)
  have e2 : mj_den mj_P E (d + 2) 213 2 [.ref 205, .int κ, .int 0] [] (mj_hw w c h0 hl) = _ := e
  rw [e215, q215_0, e213, q213_0, e2, mj_bi_some, q215_5]
  unfold wl_a
  cases hx : wl_x (wl_P val ops args kd cw cc κ) 0 L with
  | none =>
    refine ⟨g, ?_, p⟩
    show (if ¬ (-1 : Int32) = -1 then _ else _) = _
    rw [if_neg (by decide), q215_37, s_clamp (d := d + 2), mj_bi_some, q215_42]
  | some j =>
    have hj := (wl_x_lt hx).2
    obtain ⟨b1, b2, b3, b4, b5, b6, b7, b8, b9⟩ := q.2.2.2.2 j (by omega)
    have L16 := q.1
    obtain ⟨f, ef, pf⟩ := s_runs1 (E := E) (d := d + 1) (w := w) (c := c) (hl := hl) q hv p (s := cb j) (m := cw j - cb j) (b := false) (by omega) b8
    rw [show cb j + (cw j - cb j) = cw j by omega] at ef
    have g218 : g 218 j = nI (iv_ph ops (cb j)) := by rw [p _ _ (by omega)]; exact b5
    have g219 : g 219 j = nI (iv_ph ops (cw j)) := by rw [p _ _ (by omega)]; exact b6
    refine ⟨f, ?_, pf⟩
    show (if ¬ nI j = -1 then mj_den mj_P E (d + 3) 215 18 [.ref 205, .int κ, .int df, .int lim, .int (nI j)] [.ref 205] _ else _) = _
    have ef2 : mj_dc mj_P E (d + 3) 212 _ _ = _ := ef
    rw [if_pos (by rw [mj_nIn (by omega)]; exact id), q215_18]
    simp (disch := omega) only [↓reduceIte, Bool.false_eq_true, eq_self, mj_10, mj_01, mj_n10, mj_0n1, mj_1n1, mj_n11, mj_bi_some, mj_bv_some, mj_bj_some, mj_br_some, mj_r0, mj_r1, mj_q0, mj_q1, mj_b01, mj_q2, if_true, if_false, mj_it, mj_if, true_and, and_true, false_and, and_false, not_true_eq_false, not_false_eq_true, true_or, or_true, false_or, or_false, mj_nIle, mj_nIlt, mj_nIeq, mj_nI0, mj_nIc, mj_nIadd, mj_nIs, mj_ez, mj_ze, mj_eo, mj_ltz, mj_lez, mj_zlt, mj_olt, mj_lto, mj_leo, mj_ole, mj_nIn, mj_nnI, nl_2, nl_3, nl_4, nl_5, nl_6, nl_7, nl_8, nl_9, nl_10, nl_11, nl_12, nl_13, nl_14, nl_15, nl_16, nl_17, nl_18, nl_19, nl_20, nl_21, nl_22, nl_23, nl_24, nl_25, nl_26, nl_27, nl_28, nl_29, nl_30, nl_32, nl_33, nl_34, nl_35, nl_36, nl_37, nl_38, nl_39, nl_40, nl_41, nl_42, nl_43, nl_44, nl_45, nl_46, nl_47, nl_48, nl_49, nl_50, nl_51, nl_52, nl_53, nl_54, nl_55, nl_56, nl_57, nl_58, nl_59, nl_60, nl_61, nl_62, nl_64, nl_65, nl_66, nl_67, nl_68, nl_69, nl_92, nl_97, nl_99, nl_100, nl_122, nl_127, nl_128, nl_131, nl_132, nl_150, nl_200, nl_255, nl_256, nl_300, nl_342, nl_380, nl_381, nl_400, nl_401, nl_420, nl_500, nl_600, nl_800, nl_999, nl_1000, nl_1023, nl_1024, nl_1200, nl_2048, nl_2100, nl_4096, nl_9999, nl_10000, nl_10240, nl_999999, nl_1000000, if_pos, if_neg, g218, g219, ef2, q215_37, s_clamp, q215_42]
