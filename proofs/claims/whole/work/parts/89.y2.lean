theorem b_sorted {S v : Nat → Int32} {n : Nat} (hS : ws_S S v n) : (∀ i, i < n → wr_bel v n i < n ∧ S (wr_bel v n i) = v i) ∧ (∀ k, k < n → ∃ i, i < n ∧ wr_bel v n i = k) := by
  have hlt : ∀ i, i < n → wr_bel v n i < ws_cle v (v i).toInt n := fun i hi => by
    rw [wr_bel_eq hi, ws_cle_eq]
    have h4 := iv_cnt_le (fun o => decide (v o = v i)) (i + 1) n (by omega)
    rw [iv_cnt_s, if_pos (decide_eq_true rfl)] at h4
    omega
  refine ⟨fun i hi => ?_, fun m hm => ?_⟩
  · have h1 := hlt i hi
    have h2 : ws_cle v (v i).toInt n ≤ n := iv_cnt_bd _ n
    have hm : wr_bel v n i < n := by omega
    refine ⟨hm, ?_⟩
    have h3 := (hS _ hm (v i).toInt).mpr h1
    have h4 : ¬ (S (wr_bel v n i)).toInt ≤ (v i).toInt - 1 := fun z => by
      have := (hS _ hm _).mp z
      rw [wr_bel_eq hi] at this; omega
    exact Int32.toInt_inj.mp (by omega)
  · have h1 := (hS m hm (S m).toInt).mp (Int.le_refl _)
    have h2 : ¬ m < ws_cle v ((S m).toInt - 1) n := fun z => by have := (hS m hm _).mpr z; omega
    rw [ws_cle_eq] at h1
    obtain ⟨i, i1, i2, i3⟩ := iv_cnt_kth (p := fun o => decide (v o = S m)) (k := m - ws_cle v ((S m).toInt - 1) n) (n := n) (by omega)
    have i2 := of_decide_eq_true i2
    refine ⟨i, i1, ?_⟩
    rw [wr_bel_eq i1, i2]; omega
theorem ws_S_congr {S S' v v' : Nat → Int32} {n : Nat} (h : ws_S S v n) (hs : ∀ k, k < n → S' k = S k) (hv : ∀ k, k < n → v' k = v k) : ws_S S' v' n := fun j hj x => by
  have e : ws_cle v' x n = ws_cle v x n := iv_cnt_congr n (fun i hi => by rw [hv i hi])
  rw [hs j hj, e]; exact h j hj x
/-- where a value first stands -/
theorem b_idx (y : Nat → Nat) (n : Nat) : ∃ e : Nat → Nat, ∀ v, (∃ j, j < n ∧ y j = v) → e v < n ∧ y (e v) = v ∧ ∀ j, j < e v → ¬ y j = v := by
  have : ∀ v, (∃ j, j < n ∧ y j = v) → ∃ i, i < n ∧ y i = v ∧ ∀ j, j < i → ¬ y j = v := fun v ⟨j, j1, j2⟩ => by
    rcases lp_fst (fun j => y j = v) n with h | h
    · exact absurd j2 (h j j1)
    · exact h
  refine ⟨fun v => if h : ∃ j, j < n ∧ y j = v then Classical.choose (this v h) else 0, fun v hv => ?_⟩
  show (if h : ∃ j, j < n ∧ y j = v then Classical.choose (this v h) else 0) < n ∧ y (if h : ∃ j, j < n ∧ y j = v then Classical.choose (this v h) else 0) = v ∧ ∀ j, j < (if h : ∃ j, j < n ∧ y j = v then Classical.choose (this v h) else 0) → ¬ y j = v
  rw [dif_pos hv]
  exact Classical.choose_spec (this v hv)
theorem ml_eq {h : Nat → Nat → Int64} {a k : Nat} {v : Int64} : mj_u h a k v a k = v := if_pos ⟨rfl, rfl⟩
theorem ml_pt {h : Nat → Nat → Int64} {a k a' k' : Nat} {v : Int64} (hn : ¬ (a' = a ∧ k' = k)) : mj_u h a k v a' k' = h a' k' := if_neg hn
section MJ89y2
variable {E : mj_E} {d w c : Nat} {hi : mj_HI} {hl : Nat → Nat → Int64}
theorem s_weight {y : Nat → Nat} {n v j0 : Nat} (n12 : n ≤ 12) (hy : ∀ j, j < n → hi 193 j = nI (y j) ∧ y j ≤ 99) (hv : v ≤ 99) (h1 : j0 < n) (h2 : y j0 = v) (h3 : ∀ j, j < j0 → ¬ y j = v) : mj_dc mj_P E (d + 1) 97 [.ref 189, .int (nI v), .int (nI n)] (mj_hw w c hi hl) = some (some (.long (lN (32 ^ j0))), mj_hw w c hi hl) := by
  have l1 := lp_up (fun j => mj_den mj_P E d 97 2 [.ref 189, .int (nI v), .int (nI n), .int (nI j)] [] (mj_hw w c hi hl)) j0 (fun j hj => by
    show mj_den mj_P E d 97 2 [.ref 189, .int (nI v), .int (nI n), .int (nI j)] [] (mj_hw w c hi hl) = mj_den mj_P E d 97 2 [.ref 189, .int (nI v), .int (nI n), .int (nI (j + 1))] [] (mj_hw w c hi hl)
    obtain ⟨k1, k2⟩ := hy j (by omega)
    have hne := h3 j hj
    have nj : ¬ n ≤ j := by omega
    rw [q97_2]
    simp (disch := omega) only [↓reduceIte, Bool.false_eq_true, eq_self, mj_10, mj_01, mj_n10, mj_0n1, mj_1n1, mj_n11, mj_bi_some, mj_bv_some, mj_bj_some, mj_br_some, mj_r0, mj_r1, mj_q0, mj_q1, mj_b01, mj_q2, if_true, if_false, mj_it, mj_if, true_and, and_true, false_and, and_false, not_true_eq_false, not_false_eq_true, true_or, or_true, false_or, or_false, mj_nIle, mj_nIlt, mj_nIeq, mj_nI0, mj_nIc, mj_nIadd, mj_nIs, mj_ez, mj_ze, mj_eo, mj_ltz, mj_lez, mj_zlt, mj_olt, mj_lto, mj_leo, mj_ole, mj_nIn, mj_nnI, nl_2, nl_3, nl_4, nl_5, nl_6, nl_7, nl_8, nl_9, nl_10, nl_11, nl_12, nl_13, nl_14, nl_15, nl_16, nl_17, nl_18, nl_19, nl_20, nl_21, nl_22, nl_23, nl_24, nl_25, nl_26, nl_27, nl_28, nl_29, nl_30, nl_32, nl_33, nl_34, nl_35, nl_36, nl_37, nl_38, nl_39, nl_40, nl_41, nl_42, nl_43, nl_44, nl_45, nl_46, nl_47, nl_48, nl_49, nl_50, nl_51, nl_52, nl_53, nl_54, nl_55, nl_56, nl_57, nl_58, nl_59, nl_60, nl_61, nl_62, nl_64, nl_65, nl_66, nl_67, nl_68, nl_69, nl_92, nl_97, nl_99, nl_100, nl_122, nl_127, nl_128, nl_131, nl_132, nl_150, nl_200, nl_255, nl_256, nl_300, nl_342, nl_380, nl_381, nl_400, nl_401, nl_420, nl_500, nl_600, nl_800, nl_999, nl_1000, nl_1023, nl_1024, nl_1200, nl_2048, nl_2100, nl_4096, nl_9999, nl_10000, nl_10240, nl_999999, nl_1000000, if_pos, if_neg, k1, nj, hne, q97_23])
  have l1' : mj_den mj_P E d 97 2 [.ref 189, .int (nI v), .int (nI n), .int 0] [] (mj_hw w c hi hl) = mj_den mj_P E d 97 2 [.ref 189, .int (nI v), .int (nI n), .int (nI j0)] [] (mj_hw w c hi hl) := l1
  obtain ⟨k1, k2⟩ := hy j0 h1
  rw [h2] at k1
  have nj : ¬ n ≤ j0 := by omega
  have e5 : nI 5 * nI j0 = nI (5 * j0) := mj_nImul 5 j0
  have ep : (1 : Nat) * 2 ^ (5 * j0) = 32 ^ j0 := by rw [Nat.one_mul, Nat.pow_mul]
  have es : lN 1 <<< ((nI (5 * j0)).toInt64 &&& 63) = lN (32 ^ j0) := by rw [wb_shl 1 (show 5 * j0 < 64 by omega), ep]
  rw [e97, q97_0, l1', q97_2]
  simp (disch := omega) only [↓reduceIte, Bool.false_eq_true, eq_self, mj_10, mj_01, mj_n10, mj_0n1, mj_1n1, mj_n11, mj_bi_some, mj_bv_some, mj_bj_some, mj_br_some, mj_r0, mj_r1, mj_q0, mj_q1, mj_b01, mj_q2, if_true, if_false, mj_it, mj_if, true_and, and_true, false_and, and_false, not_true_eq_false, not_false_eq_true, true_or, or_true, false_or, or_false, mj_nIle, mj_nIlt, mj_nIeq, mj_nI0, mj_nIc, mj_nIadd, mj_nIs, mj_ez, mj_ze, mj_eo, mj_ltz, mj_lez, mj_zlt, mj_olt, mj_lto, mj_leo, mj_ole, mj_nIn, mj_nnI, nl_2, nl_3, nl_4, nl_5, nl_6, nl_7, nl_8, nl_9, nl_10, nl_11, nl_12, nl_13, nl_14, nl_15, nl_16, nl_17, nl_18, nl_19, nl_20, nl_21, nl_22, nl_23, nl_24, nl_25, nl_26, nl_27, nl_28, nl_29, nl_30, nl_32, nl_33, nl_34, nl_35, nl_36, nl_37, nl_38, nl_39, nl_40, nl_41, nl_42, nl_43, nl_44, nl_45, nl_46, nl_47, nl_48, nl_49, nl_50, nl_51, nl_52, nl_53, nl_54, nl_55, nl_56, nl_57, nl_58, nl_59, nl_60, nl_61, nl_62, nl_64, nl_65, nl_66, nl_67, nl_68, nl_69, nl_92, nl_97, nl_99, nl_100, nl_122, nl_127, nl_128, nl_131, nl_132, nl_150, nl_200, nl_255, nl_256, nl_300, nl_342, nl_380, nl_381, nl_400, nl_401, nl_420, nl_500, nl_600, nl_800, nl_999, nl_1000, nl_1023, nl_1024, nl_1200, nl_2048, nl_2100, nl_4096, nl_9999, nl_10000, nl_10240, nl_999999, nl_1000000, if_pos, if_neg, k1, nj, wl_of, e5, es]
theorem s_learnM {x : Nat → Nat} {n : Nat} (n12 : n ≤ 12) (hx : ∀ i, i < n → hi 41 i = nI (x i) ∧ x i ≤ 99) : ∃ (g : mj_HI) (hl' : Nat → Nat → Int64) (y e : Nat → Nat), mj_dc mj_P E (d + 2) 96 [.ref 189, .ref 41, .int (nI n)] (mj_hw w c hi hl) = some (none, mj_hw w c g hl') ∧ (∀ k, k < n → y k ≤ 99) ∧ ws_S (fun k => nI (y k)) (fun i => nI (x i)) n ∧ (∀ i, i < n → e (y i) < n ∧ y (e (y i)) = y i) ∧ (∀ i, i < n → e (x i) < n ∧ y (e (x i)) = x i) ∧ (∀ i, i < n → hl' 192 i = lN (32 ^ e (y i)) - lN (32 ^ e (x i))) ∧ (∀ a k, a ≠ 193 → g a k = hi a k) ∧ ∀ a k, a ≠ 192 → hl' a k = hl a k := by
  obtain ⟨g, eg, hS, g2⟩ := s_sort193 (E := E) (d := d) (w := w) (c := c) (hi := hi) (hl := hl) n12
  have hS' : ws_S (g 193) (fun i => nI (x i)) n := ws_S_congr hS (fun _ _ => rfl) (fun k hk => ((hx k hk).1).symm)
  obtain ⟨b1, b2⟩ := b_sorted hS'
  obtain ⟨y, hy⟩ : ∃ y : Nat → Nat, ∀ k, y k = (g 193 k).toNatClampNeg := ⟨_, fun _ => rfl⟩
  have hyk : ∀ k, k < n → g 193 k = nI (y k) ∧ y k ≤ 99 := fun k hk => by
    obtain ⟨i, i1, i2⟩ := b2 k hk
    have h1 := (b1 i i1).2
    rw [i2] at h1
    have h1 : g 193 k = nI (x i) := h1
    have h2 := (hx i i1).2
    rw [hy k, h1, mj_nIc (by omega)]
    exact ⟨rfl, h2⟩
  have hS2 : ws_S (fun k => nI (y k)) (fun i => nI (x i)) n := ws_S_congr hS' (fun k hk => ((hyk k hk).1).symm) (fun _ _ => rfl)
  obtain ⟨e, he⟩ := b_idx y n
  have hex : ∀ i, i < n → ∃ j, j < n ∧ y j = x i := fun i hi' => by
    obtain ⟨h1, h2⟩ := b1 i hi'
    refine ⟨_, h1, ?_⟩
    rw [hy, h2]
    exact mj_nIc (by have := (hx i hi').2; omega)
  have hey : ∀ i, i < n → ∃ j, j < n ∧ y j = y i := fun i hi' => ⟨i, hi', rfl⟩
  have key := lp_ex (fun j (h : Nat → Nat → Int64) => mj_den mj_P E (d + 1) 96 11 [.ref 189, .ref 41, .int (nI n), .int (nI j)] [] (mj_hw w c g h)) (fun j h => (∀ i, i < j → h 192 i = lN (32 ^ e (y i)) - lN (32 ^ e (x i))) ∧ ∀ a k, a ≠ 192 → h a k = hl a k) n (fun j h hj hI => ?_) hl ⟨fun i hi' => absurd hi' (by omega), fun _ _ _ => rfl⟩
  · obtain ⟨hl', ek, c1, c2⟩ := key
    have ek' : mj_den mj_P E (d + 1) 96 11 [.ref 189, .ref 41, .int (nI n), .int 0] [] (mj_hw w c g hl) = mj_den mj_P E (d + 1) 96 11 [.ref 189, .ref 41, .int (nI n), .int (nI n)] [] (mj_hw w c g hl') := ek
    refine ⟨g, hl', y, e, ?_, fun k hk => (hyk k hk).2, hS2, fun i hi' => ⟨(he _ (hey i hi')).1, (he _ (hey i hi')).2.1⟩, fun i hi' => ⟨(he _ (hex i hi')).1, (he _ (hex i hi')).2.1⟩, c1, g2, c2⟩
    rw [e96, q96_0, eg, mj_bv_some, q96_9, ek', q96_11, if_pos (Int32.le_refl _), q96_48]
  · obtain ⟨c1, c2⟩ := hI
    obtain ⟨x1, x2⟩ := hx j hj
    obtain ⟨y1, y2⟩ := hyk j hj
    have x1' : g 41 j = nI (x j) := by rw [g2 _ _ (by omega)]; exact x1
    obtain ⟨p1, p2, p3⟩ := he _ (hey j hj)
    obtain ⟨r1, r2, r3⟩ := he _ (hex j hj)
    have w1 := fun h' => s_weight (E := E) (d := d) (w := w) (c := c) (hi := g) (hl := h') (y := y) (n := n) (v := y j) (j0 := e (y j)) n12 hyk y2 p1 p2 p3
    have w2 := fun h' => s_weight (E := E) (d := d) (w := w) (c := c) (hi := g) (hl := h') (y := y) (n := n) (v := x j) (j0 := e (x j)) n12 hyk x2 r1 r2 r3
    have nj : ¬ n ≤ j := by omega
    refine ⟨mj_u h 192 j (lN (32 ^ e (y j)) - lN (32 ^ e (x j))), ?_, fun i hi' => ?_, fun a k ha => by rw [ml_pt (by omega)]; exact c2 a k ha⟩
    · show mj_den mj_P E (d + 1) 96 11 [.ref 189, .ref 41, .int (nI n), .int (nI j)] [] (mj_hw w c g h) = mj_den mj_P E (d + 1) 96 11 [.ref 189, .ref 41, .int (nI n), .int (nI (j + 1))] [] (mj_hw w c g (mj_u h 192 j (lN (32 ^ e (y j)) - lN (32 ^ e (x j)))))
      rw [q96_11]
      simp (disch := omega) only [↓reduceIte, Bool.false_eq_true, eq_self, mj_10, mj_01, mj_n10, mj_0n1, mj_1n1, mj_n11, mj_bi_some, mj_bv_some, mj_bj_some, mj_br_some, mj_r0, mj_r1, mj_q0, mj_q1, mj_b01, mj_q2, if_true, if_false, mj_it, mj_if, true_and, and_true, false_and, and_false, not_true_eq_false, not_false_eq_true, true_or, or_true, false_or, or_false, mj_nIle, mj_nIlt, mj_nIeq, mj_nI0, mj_nIc, mj_nIadd, mj_nIs, mj_ez, mj_ze, mj_eo, mj_ltz, mj_lez, mj_zlt, mj_olt, mj_lto, mj_leo, mj_ole, mj_nIn, mj_nnI, nl_2, nl_3, nl_4, nl_5, nl_6, nl_7, nl_8, nl_9, nl_10, nl_11, nl_12, nl_13, nl_14, nl_15, nl_16, nl_17, nl_18, nl_19, nl_20, nl_21, nl_22, nl_23, nl_24, nl_25, nl_26, nl_27, nl_28, nl_29, nl_30, nl_32, nl_33, nl_34, nl_35, nl_36, nl_37, nl_38, nl_39, nl_40, nl_41, nl_42, nl_43, nl_44, nl_45, nl_46, nl_47, nl_48, nl_49, nl_50, nl_51, nl_52, nl_53, nl_54, nl_55, nl_56, nl_57, nl_58, nl_59, nl_60, nl_61, nl_62, nl_64, nl_65, nl_66, nl_67, nl_68, nl_69, nl_92, nl_97, nl_99, nl_100, nl_122, nl_127, nl_128, nl_131, nl_132, nl_150, nl_200, nl_255, nl_256, nl_300, nl_342, nl_380, nl_381, nl_400, nl_401, nl_420, nl_500, nl_600, nl_800, nl_999, nl_1000, nl_1023, nl_1024, nl_1200, nl_2048, nl_2100, nl_4096, nl_9999, nl_10000, nl_10240, nl_999999, nl_1000000, if_pos, if_neg, nj, y1, x1', w1, w2, q96_32, q96_40]
    · by_cases hij : i = j
      · subst hij; rw [ml_eq]
      · rw [ml_pt (by omega)]; exact c1 i (by omega)
theorem s_stands {n : Nat} {x : Nat → Nat} {S : Nat → Int32} (n12 : n ≤ 12) (h0 : hi 205 58 = nI n) (hx : ∀ i, i < n → hi 237 i = nI (x i)) (hS : ws_S S (fun i => nI (x i)) n) : ∃ g : mj_HI, mj_dc mj_P E (d + 1) 276 [.ref 205] (mj_hw w c hi hl) = some (none, mj_hw w c g hl) ∧ (∀ k, k < n → g 238 k = S k) ∧ ∀ a k, a ≠ 238 → g a k = hi a k := by
  obtain ⟨b1, b2⟩ := b_sorted hS
  obtain ⟨v, hv⟩ : ∃ v : Nat → Int32, v = fun i => nI (x i) := ⟨_, rfl⟩
  have hvx : ∀ i, i < n → hi 237 i = v i := fun i hi' => by rw [hv]; exact hx i hi'
  rw [← hv] at b1 b2
  have key := lp_ex (fun j (q : Value × Value × mj_HI) => mj_den mj_P E d 276 2 [.ref 205, .int (nI j), q.1, q.2.1] [] (mj_hw w c q.2.2 hl)) (fun j q => (∀ i, i < j → q.2.2 238 (wr_bel v n i) = S (wr_bel v n i)) ∧ ∀ a k, a ≠ 238 → q.2.2 a k = hi a k) n (fun j q hj hI => ?_) (.float 0, .float 0, hi) ⟨fun i hi' => absurd hi' (by omega), fun _ _ _ => rfl⟩
  · obtain ⟨⟨u2, u3, g⟩, ek, c1, c2⟩ := key
    simp only at c1 c2
    have ek' : mj_den mj_P E d 276 2 [.ref 205, .int 0, .float 0, .float 0] [] (mj_hw w c hi hl) = mj_den mj_P E d 276 2 [.ref 205, .int (nI n), u2, u3] [] (mj_hw w c g hl) := ek
    have g0 : g 205 58 = nI n := by rw [c2 _ _ (by omega)]; exact h0
    refine ⟨g, ?_, fun k hk => ?_, c2⟩
    · rw [xg276, g276_0, ek', g276_2, g0, if_pos (Int32.le_refl _), g276_85]
    · obtain ⟨i, i1, i2⟩ := b2 k hk
      have := c1 i i1
      rw [i2] at this; exact this
  · obtain ⟨u2, u3, h⟩ := q
    obtain ⟨c1, c2⟩ := hI
    simp only at c1 c2
    have g0 : h 205 58 = nI n := by rw [c2 _ _ (by omega)]; exact h0
    have hh : ∀ i, i < n → h 237 i = v i := fun i hi' => by rw [c2 _ _ (by omega)]; exact hvx i hi'
    have hj2 := hh j hj
    have l1 := lp_up (fun o => mj_den mj_P E d 276 14 [.ref 205, .int (nI j), .int (nI (iv_cnt (fun o => decide (v o < v j ∨ (v o = v j ∧ o < j))) o)), .int (nI o)] [] (mj_hw w c h hl)) n (fun o ho => by
      show mj_den mj_P E d 276 14 [.ref 205, .int (nI j), .int (nI (iv_cnt (fun o => decide (v o < v j ∨ (v o = v j ∧ o < j))) o)), .int (nI o)] [] (mj_hw w c h hl) = mj_den mj_P E d 276 14 [.ref 205, .int (nI j), .int (nI (iv_cnt (fun o => decide (v o < v j ∨ (v o = v j ∧ o < j))) (o + 1))), .int (nI (o + 1))] [] (mj_hw w c h hl)
      have ho2 := hh o ho
      have no : ¬ n ≤ o := by omega
      rw [g276_14, g0, iv_cnt_s]
      by_cases q1 : v o < v j
      · rw [if_pos (decide_eq_true (Or.inl q1))]
        simp (disch := omega) only [↓reduceIte, Bool.false_eq_true, eq_self, mj_10, mj_01, mj_n10, mj_0n1, mj_1n1, mj_n11, mj_bi_some, mj_bv_some, mj_bj_some, mj_br_some, mj_r0, mj_r1, mj_q0, mj_q1, mj_b01, mj_q2, if_true, if_false, mj_it, mj_if, true_and, and_true, false_and, and_false, not_true_eq_false, not_false_eq_true, true_or, or_true, false_or, or_false, mj_nIle, mj_nIlt, mj_nIeq, mj_nI0, mj_nIc, mj_nIadd, mj_nIs, mj_ez, mj_ze, mj_eo, mj_ltz, mj_lez, mj_zlt, mj_olt, mj_lto, mj_leo, mj_ole, mj_nIn, mj_nnI, nl_2, nl_3, nl_4, nl_5, nl_6, nl_7, nl_8, nl_9, nl_10, nl_11, nl_12, nl_13, nl_14, nl_15, nl_16, nl_17, nl_18, nl_19, nl_20, nl_21, nl_22, nl_23, nl_24, nl_25, nl_26, nl_27, nl_28, nl_29, nl_30, nl_32, nl_33, nl_34, nl_35, nl_36, nl_37, nl_38, nl_39, nl_40, nl_41, nl_42, nl_43, nl_44, nl_45, nl_46, nl_47, nl_48, nl_49, nl_50, nl_51, nl_52, nl_53, nl_54, nl_55, nl_56, nl_57, nl_58, nl_59, nl_60, nl_61, nl_62, nl_64, nl_65, nl_66, nl_67, nl_68, nl_69, nl_92, nl_97, nl_99, nl_100, nl_122, nl_127, nl_128, nl_131, nl_132, nl_150, nl_200, nl_255, nl_256, nl_300, nl_342, nl_380, nl_381, nl_400, nl_401, nl_420, nl_500, nl_600, nl_800, nl_999, nl_1000, nl_1023, nl_1024, nl_1200, nl_2048, nl_2100, nl_4096, nl_9999, nl_10000, nl_10240, nl_999999, nl_1000000, if_pos, if_neg, ho2, hj2, no, q1, g276_57, g276_61]
      · by_cases q2 : v o = v j
        · have q1' : ¬ v j < v j := Int32.lt_irrefl
          by_cases q3 : o < j
          · have q3' : ¬ j ≤ o := by omega
            rw [if_pos (decide_eq_true (Or.inr ⟨q2, q3⟩))]
            simp (disch := omega) only [↓reduceIte, Bool.false_eq_true, eq_self, mj_10, mj_01, mj_n10, mj_0n1, mj_1n1, mj_n11, mj_bi_some, mj_bv_some, mj_bj_some, mj_br_some, mj_r0, mj_r1, mj_q0, mj_q1, mj_b01, mj_q2, if_true, if_false, mj_it, mj_if, true_and, and_true, false_and, and_false, not_true_eq_false, not_false_eq_true, true_or, or_true, false_or, or_false, mj_nIle, mj_nIlt, mj_nIeq, mj_nI0, mj_nIc, mj_nIadd, mj_nIs, mj_ez, mj_ze, mj_eo, mj_ltz, mj_lez, mj_zlt, mj_olt, mj_lto, mj_leo, mj_ole, mj_nIn, mj_nnI, nl_2, nl_3, nl_4, nl_5, nl_6, nl_7, nl_8, nl_9, nl_10, nl_11, nl_12, nl_13, nl_14, nl_15, nl_16, nl_17, nl_18, nl_19, nl_20, nl_21, nl_22, nl_23, nl_24, nl_25, nl_26, nl_27, nl_28, nl_29, nl_30, nl_32, nl_33, nl_34, nl_35, nl_36, nl_37, nl_38, nl_39, nl_40, nl_41, nl_42, nl_43, nl_44, nl_45, nl_46, nl_47, nl_48, nl_49, nl_50, nl_51, nl_52, nl_53, nl_54, nl_55, nl_56, nl_57, nl_58, nl_59, nl_60, nl_61, nl_62, nl_64, nl_65, nl_66, nl_67, nl_68, nl_69, nl_92, nl_97, nl_99, nl_100, nl_122, nl_127, nl_128, nl_131, nl_132, nl_150, nl_200, nl_255, nl_256, nl_300, nl_342, nl_380, nl_381, nl_400, nl_401, nl_420, nl_500, nl_600, nl_800, nl_999, nl_1000, nl_1023, nl_1024, nl_1200, nl_2048, nl_2100, nl_4096, nl_9999, nl_10000, nl_10240, nl_999999, nl_1000000, if_pos, if_neg, ho2, hj2, no, q2, q1', q3', g276_57, g276_61]
          · have q3' : j ≤ o := by omega
            have hneg : ¬ (decide (v o < v j ∨ (v o = v j ∧ o < j)) = true) := fun z => (of_decide_eq_true z).elim q1 (fun y => q3 y.2)
            rw [if_neg hneg]
            simp (disch := omega) only [↓reduceIte, Bool.false_eq_true, eq_self, mj_10, mj_01, mj_n10, mj_0n1, mj_1n1, mj_n11, mj_bi_some, mj_bv_some, mj_bj_some, mj_br_some, mj_r0, mj_r1, mj_q0, mj_q1, mj_b01, mj_q2, if_true, if_false, mj_it, mj_if, true_and, and_true, false_and, and_false, not_true_eq_false, not_false_eq_true, true_or, or_true, false_or, or_false, mj_nIle, mj_nIlt, mj_nIeq, mj_nI0, mj_nIc, mj_nIadd, mj_nIs, mj_ez, mj_ze, mj_eo, mj_ltz, mj_lez, mj_zlt, mj_olt, mj_lto, mj_leo, mj_ole, mj_nIn, mj_nnI, nl_2, nl_3, nl_4, nl_5, nl_6, nl_7, nl_8, nl_9, nl_10, nl_11, nl_12, nl_13, nl_14, nl_15, nl_16, nl_17, nl_18, nl_19, nl_20, nl_21, nl_22, nl_23, nl_24, nl_25, nl_26, nl_27, nl_28, nl_29, nl_30, nl_32, nl_33, nl_34, nl_35, nl_36, nl_37, nl_38, nl_39, nl_40, nl_41, nl_42, nl_43, nl_44, nl_45, nl_46, nl_47, nl_48, nl_49, nl_50, nl_51, nl_52, nl_53, nl_54, nl_55, nl_56, nl_57, nl_58, nl_59, nl_60, nl_61, nl_62, nl_64, nl_65, nl_66, nl_67, nl_68, nl_69, nl_92, nl_97, nl_99, nl_100, nl_122, nl_127, nl_128, nl_131, nl_132, nl_150, nl_200, nl_255, nl_256, nl_300, nl_342, nl_380, nl_381, nl_400, nl_401, nl_420, nl_500, nl_600, nl_800, nl_999, nl_1000, nl_1023, nl_1024, nl_1200, nl_2048, nl_2100, nl_4096, nl_9999, nl_10000, nl_10240, nl_999999, nl_1000000, if_pos, if_neg, ho2, hj2, no, q2, q1', q3', g276_57, g276_61, Nat.add_zero]
        · have hneg : ¬ (decide (v o < v j ∨ (v o = v j ∧ o < j)) = true) := fun z => (of_decide_eq_true z).elim q1 (fun y => q2 y.1)
          rw [if_neg hneg]
          simp (disch := omega) only [↓reduceIte, Bool.false_eq_true, eq_self, mj_10, mj_01, mj_n10, mj_0n1, mj_1n1, mj_n11, mj_bi_some, mj_bv_some, mj_bj_some, mj_br_some, mj_r0, mj_r1, mj_q0, mj_q1, mj_b01, mj_q2, if_true, if_false, mj_it, mj_if, true_and, and_true, false_and, and_false, not_true_eq_false, not_false_eq_true, true_or, or_true, false_or, or_false, mj_nIle, mj_nIlt, mj_nIeq, mj_nI0, mj_nIc, mj_nIadd, mj_nIs, mj_ez, mj_ze, mj_eo, mj_ltz, mj_lez, mj_zlt, mj_olt, mj_lto, mj_leo, mj_ole, mj_nIn, mj_nnI, nl_2, nl_3, nl_4, nl_5, nl_6, nl_7, nl_8, nl_9, nl_10, nl_11, nl_12, nl_13, nl_14, nl_15, nl_16, nl_17, nl_18, nl_19, nl_20, nl_21, nl_22, nl_23, nl_24, nl_25, nl_26, nl_27, nl_28, nl_29, nl_30, nl_32, nl_33, nl_34, nl_35, nl_36, nl_37, nl_38, nl_39, nl_40, nl_41, nl_42, nl_43, nl_44, nl_45, nl_46, nl_47, nl_48, nl_49, nl_50, nl_51, nl_52, nl_53, nl_54, nl_55, nl_56, nl_57, nl_58, nl_59, nl_60, nl_61, nl_62, nl_64, nl_65, nl_66, nl_67, nl_68, nl_69, nl_92, nl_97, nl_99, nl_100, nl_122, nl_127, nl_128, nl_131, nl_132, nl_150, nl_200, nl_255, nl_256, nl_300, nl_342, nl_380, nl_381, nl_400, nl_401, nl_420, nl_500, nl_600, nl_800, nl_999, nl_1000, nl_1023, nl_1024, nl_1200, nl_2048, nl_2100, nl_4096, nl_9999, nl_10000, nl_10240, nl_999999, nl_1000000, if_pos, if_neg, ho2, hj2, no, q1, q2, g276_57, g276_61, Nat.add_zero])
    have l1' : mj_den mj_P E d 276 14 [.ref 205, .int (nI j), .int 0, .int 0] [] (mj_hw w c h hl) = mj_den mj_P E d 276 14 [.ref 205, .int (nI j), .int (nI (wr_bel v n j)), .int (nI n)] [] (mj_hw w c h hl) := l1
    obtain ⟨k1, k2⟩ := b1 j hj
    have nj : ¬ n ≤ j := by omega
    refine ⟨(.int (nI (wr_bel v n j)), .int (nI n), mj_u h 238 (wr_bel v n j) (v j)), ?_, fun i hi' => ?_, fun a k ha => ?_⟩
    · show mj_den mj_P E d 276 2 [.ref 205, .int (nI j), u2, u3] [] (mj_hw w c h hl) = mj_den mj_P E d 276 2 [.ref 205, .int (nI (j + 1)), .int (nI (wr_bel v n j)), .int (nI n)] [] (mj_hw w c (mj_u h 238 (wr_bel v n j) (v j)) hl)
      rw [g276_2, g0, if_neg (by rw [mj_nIle (by omega) (by omega)]; exact nj), l1', g276_14, g0, if_pos (Int32.le_refl _), g276_67]
      simp (disch := omega) only [↓reduceIte, Bool.false_eq_true, eq_self, mj_10, mj_01, mj_n10, mj_0n1, mj_1n1, mj_n11, mj_bi_some, mj_bv_some, mj_bj_some, mj_br_some, mj_r0, mj_r1, mj_q0, mj_q1, mj_b01, mj_q2, if_true, if_false, mj_it, mj_if, true_and, and_true, false_and, and_false, not_true_eq_false, not_false_eq_true, true_or, or_true, false_or, or_false, mj_nIle, mj_nIlt, mj_nIeq, mj_nI0, mj_nIc, mj_nIadd, mj_nIs, mj_ez, mj_ze, mj_eo, mj_ltz, mj_lez, mj_zlt, mj_olt, mj_lto, mj_leo, mj_ole, mj_nIn, mj_nnI, nl_2, nl_3, nl_4, nl_5, nl_6, nl_7, nl_8, nl_9, nl_10, nl_11, nl_12, nl_13, nl_14, nl_15, nl_16, nl_17, nl_18, nl_19, nl_20, nl_21, nl_22, nl_23, nl_24, nl_25, nl_26, nl_27, nl_28, nl_29, nl_30, nl_32, nl_33, nl_34, nl_35, nl_36, nl_37, nl_38, nl_39, nl_40, nl_41, nl_42, nl_43, nl_44, nl_45, nl_46, nl_47, nl_48, nl_49, nl_50, nl_51, nl_52, nl_53, nl_54, nl_55, nl_56, nl_57, nl_58, nl_59, nl_60, nl_61, nl_62, nl_64, nl_65, nl_66, nl_67, nl_68, nl_69, nl_92, nl_97, nl_99, nl_100, nl_122, nl_127, nl_128, nl_131, nl_132, nl_150, nl_200, nl_255, nl_256, nl_300, nl_342, nl_380, nl_381, nl_400, nl_401, nl_420, nl_500, nl_600, nl_800, nl_999, nl_1000, nl_1023, nl_1024, nl_1200, nl_2048, nl_2100, nl_4096, nl_9999, nl_10000, nl_10240, nl_999999, nl_1000000, if_pos, if_neg, hj2]
    · show mj_u h 238 (wr_bel v n j) (v j) 238 (wr_bel v n i) = _
      by_cases hb : wr_bel v n i = wr_bel v n j
      · rw [hb, mj_u_eq, k2, hv]
      · rw [mj_u_pt (by omega)]
        have hij : i ≠ j := fun z => hb (by rw [z])
        exact c1 i (by omega)
    · show mj_u h 238 _ _ a k = _
      rw [mj_u_pt (by omega)]; exact c2 a k ha
end MJ89y2
