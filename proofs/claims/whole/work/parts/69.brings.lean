theorem wq_full (n i : Nat) (h : i < n) : (2 ^ n - 1).testBit i = true := by rw [Nat.testBit_two_pow_sub_one]; exact decide_eq_true h
theorem wq_Gfull {n : Nat} {x y G : Nat → Nat} (hG : ∀ s, s ≤ 2 ^ n - 1 → G s = wq_F n x y G s) : G (2 ^ n - 1) = 0 := by
  rw [hG _ (Nat.le_refl _)]
  unfold wq_F
  cases hw : wq_ix n x y G (2 ^ n - 1) with
  | none => rfl
  | some i =>
    obtain ⟨h1, h2, _, _⟩ := (wz_ix_ok _ _ n).2 i hw
    rw [wq_full n i h1] at h2; cases h2
section MJ69
variable {E : mj_E} {d w c : Nat} {hi : mj_HI} {hl : Nat → Nat → Int64}
theorem s_sellBest {n : Nat} {x y G : Nat → Nat} (hn : n ≤ 7) (h0 : hi 34 6 = nI n) (hx : ∀ i, i < n → hi 39 i = nI (x i) ∧ x i ≤ 99) (hy : ∀ i, i < n → hi 40 i = nI (y i) ∧ y i ≤ 9) (hG : ∀ s, s ≤ 2 ^ n - 1 → G s = wq_F n x y G s) : ∃ g, mj_dc mj_P E (d + 4) 38 [.ref 194, .ref 34] (mj_hw w c hi hl) = some (none, mj_hw w c g hl) ∧ g 194 0 = nI n ∧ g 194 1 = nI (G 0) ∧ (∀ k, k < n → g 195 k = wz_io (wq_ix n x y G (wq_S n x y G k))) ∧ ∀ a k, a ≠ 194 → a ≠ 195 → a ≠ 201 → g a k = hi a k := by
  have h128 : 2 ^ n ≤ 128 := Nat.pow_le_pow_right (n := 2) (by omega) hn
  have hpos : 1 ≤ 2 ^ n := Nat.two_pow_pos n
  have hT : ∀ s, wp_cs y s n < 1000 := fun s => by
    have := wy_cs_bd (y := y) (s := s) (b := 9) n (fun i hi => (hy i hi).2)
    omega
  have hGb : ∀ s, s ≤ 2 ^ n - 1 → G s ≤ 20000 := fun s hs => by
    have := wq_bd (fun i hi => (hx i hi).2) hG s hs
    omega
  have key1 := lp_ex (fun j (q : Value × Value × mj_HI) => mj_den mj_P E (d + 3) 38 37 [.ref 194, .ref 34, .int (nI (2 ^ n - 1)), .int (nI (2 ^ n - 1 - j) - 1), q.1, q.2.1] [] (mj_hw w c q.2.2 hl)) (fun j q => q.2.2 194 0 = nI n ∧ (∀ t, 2 ^ n - 1 - j ≤ t → t ≤ 2 ^ n - 1 → q.2.2 201 t = nI (G t)) ∧ ∀ a k, a ≠ 194 → a ≠ 195 → a ≠ 201 → q.2.2 a k = hi a k) (2 ^ n - 1) (fun j q hj hI => ?_) (.float 0, .float 0, mj_u (mj_u hi 194 0 (nI n)) 201 (2 ^ n - 1) 0) ⟨by show mj_u (mj_u hi 194 0 (nI n)) 201 (2 ^ n - 1) 0 194 0 = _; rw [mj_u_pt (by omega), mj_u_eq], fun t h1 h2 => by
      show mj_u (mj_u hi 194 0 (nI n)) 201 (2 ^ n - 1) 0 201 t = _
      rw [show t = 2 ^ n - 1 by omega, mj_u_eq, wq_Gfull hG]; rfl, fun a k h1 h2 h3 => by
      show mj_u (mj_u hi 194 0 (nI n)) 201 (2 ^ n - 1) 0 a k = _
      rw [mj_u_pt (by omega), mj_u_pt (by omega)]⟩
  · obtain ⟨⟨u4, u5, g1⟩, e1, a1, a2, a3⟩ := key1
    simp only at a1 a2 a3
    have key2 := lp_ex (fun k (q : Value × mj_HI) => mj_den mj_P E (d + 3) 38 106 [.ref 194, .ref 34, .int (nI (2 ^ n - 1)), .int (nI (wq_S n x y G k)), .int (nI k), q.1] [] (mj_hw w c q.2 hl)) (fun k q => q.2 194 0 = nI n ∧ q.2 194 1 = nI (G 0) ∧ (∀ t, t ≤ 2 ^ n - 1 → q.2 201 t = nI (G t)) ∧ (∀ j, j < k → q.2 195 j = wz_io (wq_ix n x y G (wq_S n x y G j))) ∧ ∀ a k, a ≠ 194 → a ≠ 195 → a ≠ 201 → q.2 a k = hi a k) n (fun k q hk hI => ?_) (u5, mj_u g1 194 1 (nI (G 0))) ⟨by show mj_u g1 194 1 (nI (G 0)) 194 0 = _; rw [mj_u_pt (by omega)]; exact a1, show mj_u g1 194 1 (nI (G 0)) 194 1 = _ from mj_u_eq, fun t ht => by show mj_u g1 194 1 (nI (G 0)) 201 t = _; rw [mj_u_pt (by omega)]; exact a2 t (by omega) ht, fun j hj => absurd hj (by omega), fun a k h1 h2 h3 => by show mj_u g1 194 1 (nI (G 0)) a k = _; rw [mj_u_pt (by omega)]; exact a3 a k h1 h2 h3⟩
    · obtain ⟨⟨u5', g2⟩, e2, b1, b2, b3, b4, b5⟩ := key2
      simp only at b1 b2 b3 b4 b5
      refine ⟨g2, ?_, b1, b2, b4, b5⟩
      have hmin : mj_dc mj_P E (d + 3) 296 [.int (nI n), .int (nI 7)] (mj_hw w c hi hl) = some (some (.int (nI n)), mj_hw w c hi hl) := by
        rw [s_min, if_neg (by rw [mj_nIlt (by omega) (by omega)]; omega)]
      have hmax : mj_dc mj_P E (d + 3) 295 [.int 0, .int (nI n)] (mj_hw w c hi hl) = some (some (.int (nI n)), mj_hw w c hi hl) := by
        rw [s_max]
        by_cases hz : n = 0
        · subst hz; rw [if_neg (by decide)]; rfl
        · rw [if_pos (by rw [mj_zlt (by omega)]; omega)]
      have e5 : ((1 : Int32) <<< (nI n &&& 31)) - 1 = nI (2 ^ n - 1) := by rw [bx_one n (by omega), mj_nIp (by omega)]
      rw [xg38, g38_0, h0, nl_7, hmin, mj_bi_some, g38_11, hmax, mj_bi_some, g38_14, e5, if_pos (by rw [mj_nI0 (by omega), mj_nIc (by omega)]; exact ⟨trivial, by omega⟩), mj_nIc (by omega)]
      refine Eq.trans e1 ?_
      show mj_den mj_P E (d + 3) 38 37 [.ref 194, .ref 34, .int (nI (2 ^ n - 1)), .int (nI (2 ^ n - 1 - (2 ^ n - 1)) - 1), u4, u5] [] (mj_hw w c g1 hl) = _
      rw [show 2 ^ n - 1 - (2 ^ n - 1) = 0 by omega, g38_37, if_pos (by decide), g38_91, if_pos (by decide), vi_c0, a2 0 (by omega) (by omega)]
      refine Eq.trans e2 ?_
      show mj_den mj_P E (d + 3) 38 106 [.ref 194, .ref 34, .int (nI (2 ^ n - 1)), .int (nI (wq_S n x y G n)), .int (nI n), u5'] [] (mj_hw w c g2 hl) = _
      rw [g38_106, b1, if_pos (Int32.le_refl _), g38_158]
    · obtain ⟨u5', g2⟩ := q
      obtain ⟨b1, b2, b3, b4, b5⟩ := hI
      simp only at b1 b2 b3 b4 b5
      have hSl := wq_S_lt n x y G k
      obtain ⟨i, hix⟩ := (wq_S_pc n x y G k (by omega)).2 hk
      obtain ⟨i1, i2, _, _⟩ := (wz_ix_ok _ _ n).2 i hix
      have eT := s_tired (E := E) (d := d + 1) (w := w) (c := c) (hi := g2) (hl := hl) (n := n) (s := wq_S n x y G k) (y := y) hn (by omega) b1 (fun i hi => by rw [b5 _ _ (by omega) (by omega) (by omega)]; exact (hy i hi).1)
      have eB := s_bestLot (E := E) (d := d) (w := w) (c := c) (hi := g2) (hl := hl) (n := n) (s := wq_S n x y G k) (x := x) (y := y) (G := G) hn hSl (hT _) b1 (fun i hi => ⟨by rw [b5 _ _ (by omega) (by omega) (by omega)]; exact (hx i hi).1, (hx i hi).2⟩) (fun i hi hb => by
        have hlt : wq_S n x y G k ||| 2 ^ i < 2 ^ n := Nat.or_lt_two_pow hSl (Nat.pow_lt_pow_right (by omega) hi)
        exact ⟨b3 _ (by omega), hGb _ (by omega)⟩)
      rw [hix] at eB
      have eT2 : mj_dc mj_P E (d + 3) 39 [.ref 194, .ref 34, .int (nI (wq_S n x y G k))] (mj_hw w c g2 hl) = _ := eT
      refine ⟨(.int (nI i), mj_u g2 195 k (nI i)), ?_, by show mj_u g2 195 k (nI i) 194 0 = _; rw [mj_u_pt (by omega)]; exact b1, by show mj_u g2 195 k (nI i) 194 1 = _; rw [mj_u_pt (by omega)]; exact b2, fun t ht => by show mj_u g2 195 k (nI i) 201 t = _; rw [mj_u_pt (by omega)]; exact b3 t ht, fun j hj => ?_, fun a j h1 h2 h3 => by show mj_u g2 195 k (nI i) a j = _; rw [mj_u_pt (by omega)]; exact b5 a j h1 h2 h3⟩
      · show mj_den mj_P E (d + 3) 38 106 [.ref 194, .ref 34, .int (nI (2 ^ n - 1)), .int (nI (wq_S n x y G k)), .int (nI k), u5'] [] (mj_hw w c g2 hl) = mj_den mj_P E (d + 3) 38 106 [.ref 194, .ref 34, .int (nI (2 ^ n - 1)), .int (nI (wq_S n x y G (k + 1))), .int (nI (k + 1)), .int (nI i)] [] (mj_hw w c (mj_u g2 195 k (nI i)) hl)
        rw [g38_106, b1, wq_S_s hix]
        simp (disch := omega) only [↓reduceIte, Bool.false_eq_true, eq_self, mj_10, mj_01, mj_n10, mj_0n1, mj_1n1, mj_n11, mj_bi_some, mj_bv_some, mj_bj_some, mj_br_some, mj_r0, mj_r1, mj_q0, mj_q1, mj_b01, mj_q2, if_true, if_false, mj_it, mj_if, true_and, and_true, false_and, and_false, not_true_eq_false, not_false_eq_true, true_or, or_true, false_or, or_false, mj_nIle, mj_nIlt, mj_nIeq, mj_nI0, mj_nIc, mj_nIadd, mj_nIs, mj_ez, mj_ze, mj_eo, mj_ltz, mj_lez, mj_zlt, mj_olt, mj_lto, mj_leo, mj_ole, mj_nIn, mj_nnI, nl_2, nl_3, nl_4, nl_5, nl_6, nl_7, nl_8, nl_9, nl_10, nl_11, nl_12, nl_13, nl_14, nl_15, nl_16, nl_17, nl_18, nl_19, nl_20, nl_21, nl_22, nl_23, nl_24, nl_25, nl_26, nl_27, nl_28, nl_29, nl_30, nl_32, nl_33, nl_34, nl_35, nl_36, nl_37, nl_38, nl_39, nl_40, nl_41, nl_42, nl_43, nl_44, nl_45, nl_46, nl_47, nl_48, nl_49, nl_50, nl_51, nl_52, nl_53, nl_54, nl_55, nl_56, nl_57, nl_58, nl_59, nl_60, nl_61, nl_62, nl_64, nl_65, nl_66, nl_67, nl_68, nl_69, nl_92, nl_97, nl_99, nl_100, nl_122, nl_127, nl_128, nl_131, nl_132, nl_150, nl_200, nl_255, nl_256, nl_300, nl_342, nl_380, nl_381, nl_400, nl_401, nl_420, nl_500, nl_600, nl_800, nl_999, nl_1000, nl_1023, nl_1024, nl_1200, nl_2048, nl_2100, nl_4096, nl_9999, nl_10000, nl_10240, nl_999999, nl_1000000, if_pos, if_neg, eT2, g38_124, eB, wz_io, g38_127, g38_136, bx_one, bx_or]
      · show mj_u g2 195 k (nI i) 195 j = _
        by_cases hjk : j = k
        · subst hjk; rw [mj_u_eq, hix]; rfl
        · rw [mj_u_pt (by omega)]; exact b4 j (by omega)
  · obtain ⟨u4, u5, g1⟩ := q
    obtain ⟨a1, a2, a3⟩ := hI
    simp only at a1 a2 a3
    have hs : 2 ^ n - 1 - j - 1 < 2 ^ n := by omega
    have ev : nI (2 ^ n - 1 - j) - 1 = nI (2 ^ n - 1 - j - 1) := mj_nIp (by omega)
    have ev2 : nI (2 ^ n - 1 - j - 1) + -1 = nI (2 ^ n - 1 - (j + 1)) - 1 := by
      rw [show 2 ^ n - 1 - (j + 1) = 2 ^ n - 1 - j - 1 by omega]; exact (Int32.sub_eq_add_neg _ _).symm
    have eT : mj_dc mj_P E (d + 3) 39 [.ref 194, .ref 34, .int (nI (2 ^ n - 1 - j - 1))] (mj_hw w c g1 hl) = _ := s_tired (d := d + 1) (n := n) (s := 2 ^ n - 1 - j - 1) (y := y) hn (by omega) a1 (fun i hi => by rw [a3 _ _ (by omega) (by omega) (by omega)]; exact (hy i hi).1)
    have hbig : ∀ i, i < n → (2 ^ n - 1 - j - 1).testBit i = false → g1 201 ((2 ^ n - 1 - j - 1) ||| 2 ^ i) = nI (G ((2 ^ n - 1 - j - 1) ||| 2 ^ i)) ∧ G ((2 ^ n - 1 - j - 1) ||| 2 ^ i) ≤ 20000 := fun i hi hb => by
      have hlt : (2 ^ n - 1 - j - 1) ||| 2 ^ i < 2 ^ n := Nat.or_lt_two_pow hs (Nat.pow_lt_pow_right (by omega) hi)
      have hgt := wz_or_gt hb
      exact ⟨a2 _ (by omega) (by omega), hGb _ (by omega)⟩
    have hxg : ∀ i, i < n → g1 39 i = nI (x i) ∧ x i ≤ 99 := fun i hi => ⟨by rw [a3 _ _ (by omega) (by omega) (by omega)]; exact (hx i hi).1, (hx i hi).2⟩
    have eB : mj_dc mj_P E (d + 3) 41 [.ref 194, .ref 34, .int (nI (2 ^ n - 1 - j - 1)), .int (nI (wp_cs y (2 ^ n - 1 - j - 1) n))] (mj_hw w c g1 hl) = _ := s_bestLot (d := d) (n := n) (x := x) (y := y) (G := G) hn hs (hT _) a1 hxg hbig
    have hGs := hG (2 ^ n - 1 - j - 1) (by omega)
    unfold wq_F at hGs
    have hfr : ∀ v, (fun t => mj_u g1 201 (2 ^ n - 1 - j - 1) v 201 t) = fun t => if t = 2 ^ n - 1 - j - 1 then v else g1 201 t := fun v => funext (fun t => mj_u_at)
    have hst : ∃ u5', mj_den mj_P E (d + 3) 38 37 [.ref 194, .ref 34, .int (nI (2 ^ n - 1)), .int (nI (2 ^ n - 1 - j) - 1), u4, u5] [] (mj_hw w c g1 hl) = mj_den mj_P E (d + 3) 38 37 [.ref 194, .ref 34, .int (nI (2 ^ n - 1)), .int (nI (2 ^ n - 1 - (j + 1)) - 1), .int (nI (wp_cs y (2 ^ n - 1 - j - 1) n)), .int u5'] [] (mj_hw w c (mj_u g1 201 (2 ^ n - 1 - j - 1) (nI (G (2 ^ n - 1 - j - 1)))) hl) := by
      rw [ev, g38_37]
      cases hw : wq_ix n x y G (2 ^ n - 1 - j - 1) with
      | none =>
        rw [hw] at eB hGs
        refine ⟨-1, ?_⟩
        simp (disch := omega) only [↓reduceIte, Bool.false_eq_true, eq_self, mj_10, mj_01, mj_n10, mj_0n1, mj_1n1, mj_n11, mj_bi_some, mj_bv_some, mj_bj_some, mj_br_some, mj_r0, mj_r1, mj_q0, mj_q1, mj_b01, mj_q2, if_true, if_false, mj_it, mj_if, true_and, and_true, false_and, and_false, not_true_eq_false, not_false_eq_true, true_or, or_true, false_or, or_false, mj_nIle, mj_nIlt, mj_nIeq, mj_nI0, mj_nIc, mj_nIadd, mj_nIs, mj_ez, mj_ze, mj_eo, mj_ltz, mj_lez, mj_zlt, mj_olt, mj_lto, mj_leo, mj_ole, mj_nIn, mj_nnI, nl_2, nl_3, nl_4, nl_5, nl_6, nl_7, nl_8, nl_9, nl_10, nl_11, nl_12, nl_13, nl_14, nl_15, nl_16, nl_17, nl_18, nl_19, nl_20, nl_21, nl_22, nl_23, nl_24, nl_25, nl_26, nl_27, nl_28, nl_29, nl_30, nl_32, nl_33, nl_34, nl_35, nl_36, nl_37, nl_38, nl_39, nl_40, nl_41, nl_42, nl_43, nl_44, nl_45, nl_46, nl_47, nl_48, nl_49, nl_50, nl_51, nl_52, nl_53, nl_54, nl_55, nl_56, nl_57, nl_58, nl_59, nl_60, nl_61, nl_62, nl_64, nl_65, nl_66, nl_67, nl_68, nl_69, nl_92, nl_97, nl_99, nl_100, nl_122, nl_127, nl_128, nl_131, nl_132, nl_150, nl_200, nl_255, nl_256, nl_300, nl_342, nl_380, nl_381, nl_400, nl_401, nl_420, nl_500, nl_600, nl_800, nl_999, nl_1000, nl_1023, nl_1024, nl_1200, nl_2048, nl_2100, nl_4096, nl_9999, nl_10000, nl_10240, nl_999999, nl_1000000, if_pos, if_neg, eT, g38_47, eB, wz_io, g38_57, g38_84, ev2, hGs, wz_v]
        rfl
      | some i =>
        rw [hw] at eB hGs
        obtain ⟨i1, i2, _, _⟩ := (wz_ix_ok _ _ n).2 i hw
        obtain ⟨x1, x2⟩ := hxg i i1
        have eg : mj_dc mj_P E (d + 3) 40 [.ref 194, .ref 34, .int (nI (2 ^ n - 1 - j - 1)), .int (nI (wp_cs y (2 ^ n - 1 - j - 1) n)), .int (nI i)] (mj_hw w c g1 hl) = _ := s_gain (d := d + 1) (x := x) (y := y) (G := G) hn i1 hs (hT _) x1 x2 (hbig i i1 i2).1
        refine ⟨nI i, ?_⟩
        simp (disch := omega) only [↓reduceIte, Bool.false_eq_true, eq_self, mj_10, mj_01, mj_n10, mj_0n1, mj_1n1, mj_n11, mj_bi_some, mj_bv_some, mj_bj_some, mj_br_some, mj_r0, mj_r1, mj_q0, mj_q1, mj_b01, mj_q2, if_true, if_false, mj_it, mj_if, true_and, and_true, false_and, and_false, not_true_eq_false, not_false_eq_true, true_or, or_true, false_or, or_false, mj_nIle, mj_nIlt, mj_nIeq, mj_nI0, mj_nIc, mj_nIadd, mj_nIs, mj_ez, mj_ze, mj_eo, mj_ltz, mj_lez, mj_zlt, mj_olt, mj_lto, mj_leo, mj_ole, mj_nIn, mj_nnI, nl_2, nl_3, nl_4, nl_5, nl_6, nl_7, nl_8, nl_9, nl_10, nl_11, nl_12, nl_13, nl_14, nl_15, nl_16, nl_17, nl_18, nl_19, nl_20, nl_21, nl_22, nl_23, nl_24, nl_25, nl_26, nl_27, nl_28, nl_29, nl_30, nl_32, nl_33, nl_34, nl_35, nl_36, nl_37, nl_38, nl_39, nl_40, nl_41, nl_42, nl_43, nl_44, nl_45, nl_46, nl_47, nl_48, nl_49, nl_50, nl_51, nl_52, nl_53, nl_54, nl_55, nl_56, nl_57, nl_58, nl_59, nl_60, nl_61, nl_62, nl_64, nl_65, nl_66, nl_67, nl_68, nl_69, nl_92, nl_97, nl_99, nl_100, nl_122, nl_127, nl_128, nl_131, nl_132, nl_150, nl_200, nl_255, nl_256, nl_300, nl_342, nl_380, nl_381, nl_400, nl_401, nl_420, nl_500, nl_600, nl_800, nl_999, nl_1000, nl_1023, nl_1024, nl_1200, nl_2048, nl_2100, nl_4096, nl_9999, nl_10000, nl_10240, nl_999999, nl_1000000, if_pos, if_neg, eT, g38_47, eB, wz_io, g38_57, g38_74, eg, g38_84, ev2, hGs, wz_v]
    obtain ⟨u5', est⟩ := hst
    refine ⟨(.int (nI (wp_cs y (2 ^ n - 1 - j - 1) n)), .int u5', mj_u g1 201 (2 ^ n - 1 - j - 1) (nI (G (2 ^ n - 1 - j - 1)))), est, ?_, fun t h1 h2 => ?_, fun a k h1 h2 h3 => ?_⟩
    · show mj_u g1 201 (2 ^ n - 1 - j - 1) (nI (G (2 ^ n - 1 - j - 1))) 194 0 = _; rw [mj_u_pt (by omega)]; exact a1
    · show mj_u g1 201 _ _ 201 t = _
      by_cases ht : t = 2 ^ n - 1 - j - 1
      · rw [ht, mj_u_eq]
      · rw [mj_u_pt (by omega)]; exact a2 t (by omega) h2
    · show mj_u g1 201 _ _ a k = _; rw [mj_u_pt (by omega)]; exact a3 a k h1 h2 h3
theorem s_broughtBy {n s i : Nat} {x y G : Nat → Nat} (hn : n ≤ 7) (hi' : i < n) (hs : s < 2 ^ n) (hT : wp_cs y s n < 1000) (h0 : hi 205 54 = nI n) (hx : hi 234 i = nI (x i)) (hx2 : x i ≤ 99) (hy : ∀ i, i < n → hi 235 i = nI (y i)) (hG : hi 236 (s ||| 2 ^ i) = nI (G (s ||| 2 ^ i))) : mj_dc mj_P E (d + 2) 272 [.ref 205, .int (nI s), .int (nI i)] (mj_hw w c hi hl) = some (some (.int (nI (wq_g n x y G s i))), mj_hw w c hi hl) := by
  have h128 : 2 ^ n ≤ 128 := Nat.pow_le_pow_right (n := 2) (by omega) hn
  have hlt : s ||| 2 ^ i < 2 ^ n := Nat.or_lt_two_pow hs (Nat.pow_lt_pow_right (by omega) hi')
  have e1 : nI s ||| ((1 : Int32) <<< (nI i &&& 31)) = nI (s ||| 2 ^ i) := by rw [bx_one i (by omega), bx_or]
  have e2 := wq_sub (a := x i) (b := wp_cs y s n) (by omega) (by omega)
  rw [e272, q272_0]
  simp (disch := omega) only [↓reduceIte, Bool.false_eq_true, eq_self, mj_10, mj_01, mj_n10, mj_0n1, mj_1n1, mj_n11, mj_bi_some, mj_bv_some, mj_bj_some, mj_br_some, mj_r0, mj_r1, mj_q0, mj_q1, mj_b01, mj_q2, if_true, if_false, mj_it, mj_if, true_and, and_true, false_and, and_false, not_true_eq_false, not_false_eq_true, true_or, or_true, false_or, or_false, mj_nIle, mj_nIlt, mj_nIeq, mj_nI0, mj_nIc, mj_nIadd, mj_nIs, mj_ez, mj_ze, mj_eo, mj_ltz, mj_lez, mj_zlt, mj_olt, mj_lto, mj_leo, mj_ole, mj_nIn, mj_nnI, nl_2, nl_3, nl_4, nl_5, nl_6, nl_7, nl_8, nl_9, nl_10, nl_11, nl_12, nl_13, nl_14, nl_15, nl_16, nl_17, nl_18, nl_19, nl_20, nl_21, nl_22, nl_23, nl_24, nl_25, nl_26, nl_27, nl_28, nl_29, nl_30, nl_32, nl_33, nl_34, nl_35, nl_36, nl_37, nl_38, nl_39, nl_40, nl_41, nl_42, nl_43, nl_44, nl_45, nl_46, nl_47, nl_48, nl_49, nl_50, nl_51, nl_52, nl_53, nl_54, nl_55, nl_56, nl_57, nl_58, nl_59, nl_60, nl_61, nl_62, nl_64, nl_65, nl_66, nl_67, nl_68, nl_69, nl_92, nl_97, nl_99, nl_100, nl_122, nl_127, nl_128, nl_131, nl_132, nl_150, nl_200, nl_255, nl_256, nl_300, nl_342, nl_380, nl_381, nl_400, nl_401, nl_420, nl_500, nl_600, nl_800, nl_999, nl_1000, nl_1023, nl_1024, nl_1200, nl_2048, nl_2100, nl_4096, nl_9999, nl_10000, nl_10240, nl_999999, nl_1000000, if_pos, if_neg, hx]
  have e0 : nI (x i) = nI (x i) - nI (wp_cs y s 0) := (Int32.sub_zero _).symm
  refine Eq.trans (Eq.trans (congrArg (fun z => mj_den mj_P E (d + 1) 272 10 [.ref 205, .int (nI s), .int (nI i), .int z, .int 0] [] (mj_hw w c hi hl)) e0) (lp_up (fun j => mj_den mj_P E (d + 1) 272 10 [.ref 205, .int (nI s), .int (nI i), .int (nI (x i) - nI (wp_cs y s j)), .int (nI j)] [] (mj_hw w c hi hl)) n (fun j hj => ?_))) ?_
  · show mj_den mj_P E (d + 1) 272 10 [.ref 205, .int (nI s), .int (nI i), .int (nI (x i) - nI (wp_cs y s j)), .int (nI j)] [] (mj_hw w c hi hl) = mj_den mj_P E (d + 1) 272 10 [.ref 205, .int (nI s), .int (nI i), .int (nI (x i) - nI (wp_cs y s (j + 1))), .int (nI (j + 1))] [] (mj_hw w c hi hl)
    have hyj := hy j hj
    rw [q272_10, h0, wp_cs_s]
    by_cases hb : s.testBit j = true
    · simp (disch := omega) only [↓reduceIte, Bool.false_eq_true, eq_self, mj_10, mj_01, mj_n10, mj_0n1, mj_1n1, mj_n11, mj_bi_some, mj_bv_some, mj_bj_some, mj_br_some, mj_r0, mj_r1, mj_q0, mj_q1, mj_b01, mj_q2, if_true, if_false, mj_it, mj_if, true_and, and_true, false_and, and_false, not_true_eq_false, not_false_eq_true, true_or, or_true, false_or, or_false, mj_nIle, mj_nIlt, mj_nIeq, mj_nI0, mj_nIc, mj_nIadd, mj_nIs, mj_ez, mj_ze, mj_eo, mj_ltz, mj_lez, mj_zlt, mj_olt, mj_lto, mj_leo, mj_ole, mj_nIn, mj_nnI, nl_2, nl_3, nl_4, nl_5, nl_6, nl_7, nl_8, nl_9, nl_10, nl_11, nl_12, nl_13, nl_14, nl_15, nl_16, nl_17, nl_18, nl_19, nl_20, nl_21, nl_22, nl_23, nl_24, nl_25, nl_26, nl_27, nl_28, nl_29, nl_30, nl_32, nl_33, nl_34, nl_35, nl_36, nl_37, nl_38, nl_39, nl_40, nl_41, nl_42, nl_43, nl_44, nl_45, nl_46, nl_47, nl_48, nl_49, nl_50, nl_51, nl_52, nl_53, nl_54, nl_55, nl_56, nl_57, nl_58, nl_59, nl_60, nl_61, nl_62, nl_64, nl_65, nl_66, nl_67, nl_68, nl_69, nl_92, nl_97, nl_99, nl_100, nl_122, nl_127, nl_128, nl_131, nl_132, nl_150, nl_200, nl_255, nl_256, nl_300, nl_342, nl_380, nl_381, nl_400, nl_401, nl_420, nl_500, nl_600, nl_800, nl_999, nl_1000, nl_1023, nl_1024, nl_1200, nl_2048, nl_2100, nl_4096, nl_9999, nl_10000, nl_10240, nl_999999, nl_1000000, if_pos, if_neg, s_hM, hb, q272_26, q272_39, hyj, Int32.sub_sub]
    · simp (disch := omega) only [↓reduceIte, Bool.false_eq_true, eq_self, mj_10, mj_01, mj_n10, mj_0n1, mj_1n1, mj_n11, mj_bi_some, mj_bv_some, mj_bj_some, mj_br_some, mj_r0, mj_r1, mj_q0, mj_q1, mj_b01, mj_q2, if_true, if_false, mj_it, mj_if, true_and, and_true, false_and, and_false, not_true_eq_false, not_false_eq_true, true_or, or_true, false_or, or_false, mj_nIle, mj_nIlt, mj_nIeq, mj_nI0, mj_nIc, mj_nIadd, mj_nIs, mj_ez, mj_ze, mj_eo, mj_ltz, mj_lez, mj_zlt, mj_olt, mj_lto, mj_leo, mj_ole, mj_nIn, mj_nnI, nl_2, nl_3, nl_4, nl_5, nl_6, nl_7, nl_8, nl_9, nl_10, nl_11, nl_12, nl_13, nl_14, nl_15, nl_16, nl_17, nl_18, nl_19, nl_20, nl_21, nl_22, nl_23, nl_24, nl_25, nl_26, nl_27, nl_28, nl_29, nl_30, nl_32, nl_33, nl_34, nl_35, nl_36, nl_37, nl_38, nl_39, nl_40, nl_41, nl_42, nl_43, nl_44, nl_45, nl_46, nl_47, nl_48, nl_49, nl_50, nl_51, nl_52, nl_53, nl_54, nl_55, nl_56, nl_57, nl_58, nl_59, nl_60, nl_61, nl_62, nl_64, nl_65, nl_66, nl_67, nl_68, nl_69, nl_92, nl_97, nl_99, nl_100, nl_122, nl_127, nl_128, nl_131, nl_132, nl_150, nl_200, nl_255, nl_256, nl_300, nl_342, nl_380, nl_381, nl_400, nl_401, nl_420, nl_500, nl_600, nl_800, nl_999, nl_1000, nl_1023, nl_1024, nl_1200, nl_2048, nl_2100, nl_4096, nl_9999, nl_10000, nl_10240, nl_999999, nl_1000000, if_pos, if_neg, s_hM, hb, q272_26, q272_39, Nat.add_zero]
  · show mj_den mj_P E (d + 1) 272 10 [.ref 205, .int (nI s), .int (nI i), .int (nI (x i) - nI (wp_cs y s n)), .int (nI n)] [] (mj_hw w c hi hl) = _
    rw [q272_10, h0, if_pos (Int32.le_refl _), q272_45, s_greater, e2, mj_bi_some, q272_51, e1]
    simp (disch := omega) only [↓reduceIte, Bool.false_eq_true, eq_self, mj_10, mj_01, mj_n10, mj_0n1, mj_1n1, mj_n11, mj_bi_some, mj_bv_some, mj_bj_some, mj_br_some, mj_r0, mj_r1, mj_q0, mj_q1, mj_b01, mj_q2, if_true, if_false, mj_it, mj_if, true_and, and_true, false_and, and_false, not_true_eq_false, not_false_eq_true, true_or, or_true, false_or, or_false, mj_nIle, mj_nIlt, mj_nIeq, mj_nI0, mj_nIc, mj_nIadd, mj_nIs, mj_ez, mj_ze, mj_eo, mj_ltz, mj_lez, mj_zlt, mj_olt, mj_lto, mj_leo, mj_ole, mj_nIn, mj_nnI, nl_2, nl_3, nl_4, nl_5, nl_6, nl_7, nl_8, nl_9, nl_10, nl_11, nl_12, nl_13, nl_14, nl_15, nl_16, nl_17, nl_18, nl_19, nl_20, nl_21, nl_22, nl_23, nl_24, nl_25, nl_26, nl_27, nl_28, nl_29, nl_30, nl_32, nl_33, nl_34, nl_35, nl_36, nl_37, nl_38, nl_39, nl_40, nl_41, nl_42, nl_43, nl_44, nl_45, nl_46, nl_47, nl_48, nl_49, nl_50, nl_51, nl_52, nl_53, nl_54, nl_55, nl_56, nl_57, nl_58, nl_59, nl_60, nl_61, nl_62, nl_64, nl_65, nl_66, nl_67, nl_68, nl_69, nl_92, nl_97, nl_99, nl_100, nl_122, nl_127, nl_128, nl_131, nl_132, nl_150, nl_200, nl_255, nl_256, nl_300, nl_342, nl_380, nl_381, nl_400, nl_401, nl_420, nl_500, nl_600, nl_800, nl_999, nl_1000, nl_1023, nl_1024, nl_1200, nl_2048, nl_2100, nl_4096, nl_9999, nl_10000, nl_10240, nl_999999, nl_1000000, if_pos, if_neg, hG]
    unfold wq_g; rfl
theorem s_findsB {n : Nat} {x y G : Nat → Nat} (hn : n ≤ 7) (h0 : hi 205 54 = nI n) (hx : ∀ i, i < n → hi 234 i = nI (x i) ∧ x i ≤ 99) (hy : ∀ i, i < n → hi 235 i = nI (y i) ∧ y i ≤ 9) (hG : ∀ s, s ≤ 2 ^ n - 1 → G s = wq_F n x y G s) : ∃ g, mj_dc mj_P E (d + 3) 273 [.ref 205] (mj_hw w c hi hl) = some (none, mj_hw w c g hl) ∧ (∀ t, t ≤ 2 ^ n - 1 → g 236 t = nI (G t)) ∧ ∀ a k, a ≠ 236 → g a k = hi a k := by
  have h128 : 2 ^ n ≤ 128 := Nat.pow_le_pow_right (n := 2) (by omega) hn
  have hpos : 1 ≤ 2 ^ n := Nat.two_pow_pos n
  have hT : ∀ s, wp_cs y s n < 1000 := fun s => by
    have := wy_cs_bd (y := y) (s := s) (b := 9) n (fun i hi => (hy i hi).2)
    omega
  have hGb : ∀ s, s ≤ 2 ^ n - 1 → G s ≤ 20000 := fun s hs => by
    have := wq_bd (fun i hi => (hx i hi).2) hG s hs
    omega
  have key := lp_ex (fun j (q : Value × Value × mj_HI) => mj_den mj_P E (d + 2) 273 9 [.ref 205, .int (nI (2 ^ n - j) - 1), q.1, q.2.1] [] (mj_hw w c q.2.2 hl)) (fun j q => (∀ t, 2 ^ n - j ≤ t → t ≤ 2 ^ n - 1 → q.2.2 236 t = nI (G t)) ∧ ∀ a k, a ≠ 236 → q.2.2 a k = hi a k) (2 ^ n) (fun j q hj hI => ?_) (.float 0, .float 0, hi) ⟨fun t h1 h2 => absurd h1 (by omega), fun _ _ _ => rfl⟩
  · obtain ⟨⟨u2, u3, g⟩, e, g1, g2⟩ := key
    refine ⟨g, ?_, fun t ht => g1 t (by omega) ht, g2⟩
    rw [xg273, g273_0, h0, bx_one n (by omega)]
    refine Eq.trans e ?_
    show mj_den mj_P E (d + 2) 273 9 [.ref 205, .int (nI (2 ^ n - 2 ^ n) - 1), u2, u3] [] (mj_hw w c g hl) = _
    rw [show 2 ^ n - 2 ^ n = 0 by omega, g273_9, if_pos (by decide), g273_65]
  · obtain ⟨u2, u3, g⟩ := q
    obtain ⟨g1, g2⟩ := hI
    simp only at g1 g2
    have hs : 2 ^ n - j - 1 < 2 ^ n := by omega
    have ev : nI (2 ^ n - j) - 1 = nI (2 ^ n - j - 1) := mj_nIp (by omega)
    have ev2 : nI (2 ^ n - j - 1) + -1 = nI (2 ^ n - (j + 1)) - 1 := by
      rw [show 2 ^ n - (j + 1) = 2 ^ n - j - 1 by omega]; exact (Int32.sub_eq_add_neg _ _).symm
    have gn : g 205 54 = nI n := by rw [g2 _ _ (by omega)]; exact h0
    refine ⟨(.int (nI (G (2 ^ n - j - 1))), .int (nI n), mj_u g 236 (2 ^ n - j - 1) (nI (G (2 ^ n - j - 1)))), ?_, fun t h1 h2 => ?_, fun a k ha => ?_⟩
    · show mj_den mj_P E (d + 2) 273 9 [.ref 205, .int (nI (2 ^ n - j) - 1), u2, u3] [] (mj_hw w c g hl) = mj_den mj_P E (d + 2) 273 9 [.ref 205, .int (nI (2 ^ n - (j + 1)) - 1), .int (nI (G (2 ^ n - j - 1))), .int (nI n)] [] (mj_hw w c (mj_u g 236 (2 ^ n - j - 1) (nI (G (2 ^ n - j - 1)))) hl)
      rw [ev, g273_9, if_neg (by rw [mj_ltz (by omega)]; exact fun z => z)]
      have hGs := hG (2 ^ n - j - 1) (by omega)
      unfold wq_F wq_ix at hGs
      have hsx : ∀ i, i < n → (2 ^ n - j - 1).testBit i = false → mj_dc mj_P E (d + 2) 272 [.ref 205, .int (nI (2 ^ n - j - 1)), .int (nI i)] (mj_hw w c g hl) = some (some (.int (nI (wq_g n x y G (2 ^ n - j - 1) i))), mj_hw w c g hl) ∧ wq_g n x y G (2 ^ n - j - 1) i ≤ 30000 := fun i hin hb => by
        have hlt : (2 ^ n - j - 1) ||| 2 ^ i < 2 ^ n := Nat.or_lt_two_pow hs (Nat.pow_lt_pow_right (by omega) hin)
        have hgt := wz_or_gt hb
        refine ⟨s_broughtBy (d := d) hn hin hs (hT _) gn (by rw [g2 _ _ (by omega)]; exact (hx i hin).1) (hx i hin).2 (fun i hi => by rw [g2 _ _ (by omega)]; exact (hy i hi).1) (g1 _ (by omega) (by omega)), ?_⟩
        have := hGb _ (show (2 ^ n - j - 1) ||| 2 ^ i ≤ 2 ^ n - 1 by omega)
        have := (hx i hin).2
        unfold wq_g; omega
      generalize 2 ^ n - j - 1 = s at hs hGs hsx
      refine (lp_up (fun k => mj_den mj_P E (d + 2) 273 17 [.ref 205, .int (nI s), .int (nI (wz_v (wq_g n x y G s) 0 (wz_ix (fun i => 100000 - wq_g n x y G s i) s k))), .int (nI k)] [] (mj_hw w c g hl)) n (fun k hk => ?_)).trans ?_
      · show mj_den mj_P E (d + 2) 273 17 [.ref 205, .int (nI s), .int (nI (wz_v (wq_g n x y G s) 0 (wz_ix (fun i => 100000 - wq_g n x y G s i) s k))), .int (nI k)] [] (mj_hw w c g hl) = mj_den mj_P E (d + 2) 273 17 [.ref 205, .int (nI s), .int (nI (wz_v (wq_g n x y G s) 0 (wz_ix (fun i => 100000 - wq_g n x y G s i) s (k + 1)))), .int (nI (k + 1))] [] (mj_hw w c g hl)
        rw [g273_17, gn]
        by_cases hb : s.testBit k = true
        · rw [wz_ix_t hb]
          simp (disch := omega) only [↓reduceIte, Bool.false_eq_true, eq_self, mj_10, mj_01, mj_n10, mj_0n1, mj_1n1, mj_n11, mj_bi_some, mj_bv_some, mj_bj_some, mj_br_some, mj_r0, mj_r1, mj_q0, mj_q1, mj_b01, mj_q2, if_true, if_false, mj_it, mj_if, true_and, and_true, false_and, and_false, not_true_eq_false, not_false_eq_true, true_or, or_true, false_or, or_false, mj_nIle, mj_nIlt, mj_nIeq, mj_nI0, mj_nIc, mj_nIadd, mj_nIs, mj_ez, mj_ze, mj_eo, mj_ltz, mj_lez, mj_zlt, mj_olt, mj_lto, mj_leo, mj_ole, mj_nIn, mj_nnI, nl_2, nl_3, nl_4, nl_5, nl_6, nl_7, nl_8, nl_9, nl_10, nl_11, nl_12, nl_13, nl_14, nl_15, nl_16, nl_17, nl_18, nl_19, nl_20, nl_21, nl_22, nl_23, nl_24, nl_25, nl_26, nl_27, nl_28, nl_29, nl_30, nl_32, nl_33, nl_34, nl_35, nl_36, nl_37, nl_38, nl_39, nl_40, nl_41, nl_42, nl_43, nl_44, nl_45, nl_46, nl_47, nl_48, nl_49, nl_50, nl_51, nl_52, nl_53, nl_54, nl_55, nl_56, nl_57, nl_58, nl_59, nl_60, nl_61, nl_62, nl_64, nl_65, nl_66, nl_67, nl_68, nl_69, nl_92, nl_97, nl_99, nl_100, nl_122, nl_127, nl_128, nl_131, nl_132, nl_150, nl_200, nl_255, nl_256, nl_300, nl_342, nl_380, nl_381, nl_400, nl_401, nl_420, nl_500, nl_600, nl_800, nl_999, nl_1000, nl_1023, nl_1024, nl_1200, nl_2048, nl_2100, nl_4096, nl_9999, nl_10000, nl_10240, nl_999999, nl_1000000, if_pos, if_neg, s_hM, hb, g273_31, g273_46]
        · have hb2 : s.testBit k = false := by simpa using hb
          obtain ⟨eb, bb⟩ := hsx k hk hb2
          cases hw : wz_ix (fun i => 100000 - wq_g n x y G s i) s k with
          | none =>
            rw [wz_ix_n hb hw]
            simp (disch := omega) only [↓reduceIte, Bool.false_eq_true, eq_self, mj_10, mj_01, mj_n10, mj_0n1, mj_1n1, mj_n11, mj_bi_some, mj_bv_some, mj_bj_some, mj_br_some, mj_r0, mj_r1, mj_q0, mj_q1, mj_b01, mj_q2, if_true, if_false, mj_it, mj_if, true_and, and_true, false_and, and_false, not_true_eq_false, not_false_eq_true, true_or, or_true, false_or, or_false, mj_nIle, mj_nIlt, mj_nIeq, mj_nI0, mj_nIc, mj_nIadd, mj_nIs, mj_ez, mj_ze, mj_eo, mj_ltz, mj_lez, mj_zlt, mj_olt, mj_lto, mj_leo, mj_ole, mj_nIn, mj_nnI, nl_2, nl_3, nl_4, nl_5, nl_6, nl_7, nl_8, nl_9, nl_10, nl_11, nl_12, nl_13, nl_14, nl_15, nl_16, nl_17, nl_18, nl_19, nl_20, nl_21, nl_22, nl_23, nl_24, nl_25, nl_26, nl_27, nl_28, nl_29, nl_30, nl_32, nl_33, nl_34, nl_35, nl_36, nl_37, nl_38, nl_39, nl_40, nl_41, nl_42, nl_43, nl_44, nl_45, nl_46, nl_47, nl_48, nl_49, nl_50, nl_51, nl_52, nl_53, nl_54, nl_55, nl_56, nl_57, nl_58, nl_59, nl_60, nl_61, nl_62, nl_64, nl_65, nl_66, nl_67, nl_68, nl_69, nl_92, nl_97, nl_99, nl_100, nl_122, nl_127, nl_128, nl_131, nl_132, nl_150, nl_200, nl_255, nl_256, nl_300, nl_342, nl_380, nl_381, nl_400, nl_401, nl_420, nl_500, nl_600, nl_800, nl_999, nl_1000, nl_1023, nl_1024, nl_1200, nl_2048, nl_2100, nl_4096, nl_9999, nl_10000, nl_10240, nl_999999, nl_1000000, if_pos, if_neg, s_hM, hb, g273_31, eb, g273_42, g273_45, g273_46, s_greater, wz_v]
            by_cases h1 : 0 < wq_g n x y G s k
            · rw [if_pos h1]
            · rw [if_neg h1, show wq_g n x y G s k = 0 by omega]
          | some m =>
            obtain ⟨m1, m2, _, _⟩ := (wz_ix_ok _ s k).2 m hw
            obtain ⟨_, bm⟩ := hsx m (by omega) m2
            rw [wz_ix_s hb hw]
            by_cases hlt : wq_g n x y G s m < wq_g n x y G s k
            · rw [if_pos (show 100000 - wq_g n x y G s k < 100000 - wq_g n x y G s m by omega)]
              simp (disch := omega) only [↓reduceIte, Bool.false_eq_true, eq_self, mj_10, mj_01, mj_n10, mj_0n1, mj_1n1, mj_n11, mj_bi_some, mj_bv_some, mj_bj_some, mj_br_some, mj_r0, mj_r1, mj_q0, mj_q1, mj_b01, mj_q2, if_true, if_false, mj_it, mj_if, true_and, and_true, false_and, and_false, not_true_eq_false, not_false_eq_true, true_or, or_true, false_or, or_false, mj_nIle, mj_nIlt, mj_nIeq, mj_nI0, mj_nIc, mj_nIadd, mj_nIs, mj_ez, mj_ze, mj_eo, mj_ltz, mj_lez, mj_zlt, mj_olt, mj_lto, mj_leo, mj_ole, mj_nIn, mj_nnI, nl_2, nl_3, nl_4, nl_5, nl_6, nl_7, nl_8, nl_9, nl_10, nl_11, nl_12, nl_13, nl_14, nl_15, nl_16, nl_17, nl_18, nl_19, nl_20, nl_21, nl_22, nl_23, nl_24, nl_25, nl_26, nl_27, nl_28, nl_29, nl_30, nl_32, nl_33, nl_34, nl_35, nl_36, nl_37, nl_38, nl_39, nl_40, nl_41, nl_42, nl_43, nl_44, nl_45, nl_46, nl_47, nl_48, nl_49, nl_50, nl_51, nl_52, nl_53, nl_54, nl_55, nl_56, nl_57, nl_58, nl_59, nl_60, nl_61, nl_62, nl_64, nl_65, nl_66, nl_67, nl_68, nl_69, nl_92, nl_97, nl_99, nl_100, nl_122, nl_127, nl_128, nl_131, nl_132, nl_150, nl_200, nl_255, nl_256, nl_300, nl_342, nl_380, nl_381, nl_400, nl_401, nl_420, nl_500, nl_600, nl_800, nl_999, nl_1000, nl_1023, nl_1024, nl_1200, nl_2048, nl_2100, nl_4096, nl_9999, nl_10000, nl_10240, nl_999999, nl_1000000, if_pos, if_neg, s_hM, hb, g273_31, eb, g273_42, g273_45, g273_46, s_greater, wz_v]
            · rw [if_neg (show ¬ 100000 - wq_g n x y G s k < 100000 - wq_g n x y G s m by omega)]
              simp (disch := omega) only [↓reduceIte, Bool.false_eq_true, eq_self, mj_10, mj_01, mj_n10, mj_0n1, mj_1n1, mj_n11, mj_bi_some, mj_bv_some, mj_bj_some, mj_br_some, mj_r0, mj_r1, mj_q0, mj_q1, mj_b01, mj_q2, if_true, if_false, mj_it, mj_if, true_and, and_true, false_and, and_false, not_true_eq_false, not_false_eq_true, true_or, or_true, false_or, or_false, mj_nIle, mj_nIlt, mj_nIeq, mj_nI0, mj_nIc, mj_nIadd, mj_nIs, mj_ez, mj_ze, mj_eo, mj_ltz, mj_lez, mj_zlt, mj_olt, mj_lto, mj_leo, mj_ole, mj_nIn, mj_nnI, nl_2, nl_3, nl_4, nl_5, nl_6, nl_7, nl_8, nl_9, nl_10, nl_11, nl_12, nl_13, nl_14, nl_15, nl_16, nl_17, nl_18, nl_19, nl_20, nl_21, nl_22, nl_23, nl_24, nl_25, nl_26, nl_27, nl_28, nl_29, nl_30, nl_32, nl_33, nl_34, nl_35, nl_36, nl_37, nl_38, nl_39, nl_40, nl_41, nl_42, nl_43, nl_44, nl_45, nl_46, nl_47, nl_48, nl_49, nl_50, nl_51, nl_52, nl_53, nl_54, nl_55, nl_56, nl_57, nl_58, nl_59, nl_60, nl_61, nl_62, nl_64, nl_65, nl_66, nl_67, nl_68, nl_69, nl_92, nl_97, nl_99, nl_100, nl_122, nl_127, nl_128, nl_131, nl_132, nl_150, nl_200, nl_255, nl_256, nl_300, nl_342, nl_380, nl_381, nl_400, nl_401, nl_420, nl_500, nl_600, nl_800, nl_999, nl_1000, nl_1023, nl_1024, nl_1200, nl_2048, nl_2100, nl_4096, nl_9999, nl_10000, nl_10240, nl_999999, nl_1000000, if_pos, if_neg, s_hM, hb, g273_31, eb, g273_42, g273_45, g273_46, s_greater, wz_v]
      · show mj_den mj_P E (d + 2) 273 17 [.ref 205, .int (nI s), .int (nI (wz_v (wq_g n x y G s) 0 (wz_ix (fun i => 100000 - wq_g n x y G s i) s n))), .int (nI n)] [] (mj_hw w c g hl) = _
        rw [← hGs, g273_17, gn, if_pos (Int32.le_refl _), g273_52, if_pos (by rw [mj_nI0 (by omega), mj_nIc (by omega)]; exact ⟨trivial, by omega⟩), mj_nIc (by omega), show nI s + -1 = nI s - 1 from (Int32.sub_eq_add_neg _ _).symm]
    · show mj_u g 236 _ _ 236 t = _
      by_cases ht : t = 2 ^ n - j - 1
      · rw [ht, mj_u_eq]
      · rw [mj_u_pt (by omega)]; exact g1 t (by omega) h2
    · show mj_u g 236 _ _ a k = _; rw [mj_u_pt (by omega)]; exact g2 a k ha
end MJ69
theorem iv_bro {n l : Nat} {h m : mj_HI} (q : iv_J n l h m) : ∃ (s : Nat) (x y : Nat → Nat), s ≤ 7 ∧ h 34 6 = nI s ∧ m 205 54 = nI s ∧ ∀ i, i < s → x i ≤ 99 ∧ y i ≤ 9 ∧ h 39 i = nI (x i) ∧ m 234 i = nI (x i) ∧ h 40 i = nI (y i) ∧ m 235 i = nI (y i) := by
  obtain ⟨hS, hC, hP, ⟨s, h1, h2, h3, h4⟩, hR⟩ := iv_Jth q
  refine ⟨s, fun i => (h 39 i).toNatClampNeg, fun i => (h 40 i).toNatClampNeg, h1, h2, h3, fun i hi => ?_⟩
  obtain ⟨x, y, x1, y1, x2, x3, y2, y3⟩ := h4 i hi
  have e : h 39 i = nI x := x2
  have e' : h 40 i = nI y := y2
  have e2 : (h 39 i).toNatClampNeg = x := by rw [e]; exact mj_nIc (by omega)
  have e3 : (h 40 i).toNatClampNeg = y := by rw [e']; exact mj_nIc (by omega)
  show (h 39 i).toNatClampNeg ≤ 99 ∧ (h 40 i).toNatClampNeg ≤ 9 ∧ h 39 i = nI (h 39 i).toNatClampNeg ∧ m 234 i = nI (h 39 i).toNatClampNeg ∧ h 40 i = nI (h 40 i).toNatClampNeg ∧ m 235 i = nI (h 40 i).toNatClampNeg
  rw [e2, e3]; exact ⟨x1, y1, e, x3, e', y3⟩
theorem s_told194 {E : mj_E} {d w c : Nat} {hi : mj_HI} {hl : Nat → Nat → Int64} {n K : Nat} (hn : n ≤ 10) (hK : K < n) (h0 : hi 194 0 = nI n) : mj_dc mj_P E (d + 1) 27 [.ref 194, .int (nI (10 + K))] (mj_hw w c hi hl) = some (some (.int (hi 195 K)), mj_hw w c hi hl) := by
  have e : nI (10 + K) - nI 10 = nI K := by rw [mj_nIsub (by omega)]; congr 1; omega
  simp (disch := omega) only [q27_0, q27_9, q27_47, q27_48, e27, ↓reduceIte, Bool.false_eq_true, eq_self, mj_10, mj_01, mj_n10, mj_0n1, mj_1n1, mj_n11, mj_bi_some, mj_bv_some, mj_bj_some, mj_br_some, mj_r0, mj_r1, mj_q0, mj_q1, mj_b01, mj_q2, if_true, if_false, mj_it, mj_if, true_and, and_true, false_and, and_false, not_true_eq_false, not_false_eq_true, true_or, or_true, false_or, or_false, mj_nIle, mj_nIlt, mj_nIeq, mj_nI0, mj_nIc, mj_nIadd, mj_nIs, mj_ez, mj_ze, mj_eo, mj_ltz, mj_lez, mj_zlt, mj_olt, mj_lto, mj_leo, mj_ole, mj_nIn, mj_nnI, nl_2, nl_3, nl_4, nl_5, nl_6, nl_7, nl_8, nl_9, nl_10, nl_11, nl_12, nl_13, nl_14, nl_15, nl_16, nl_17, nl_18, nl_19, nl_20, nl_21, nl_22, nl_23, nl_24, nl_25, nl_26, nl_27, nl_28, nl_29, nl_30, nl_32, nl_33, nl_34, nl_35, nl_36, nl_37, nl_38, nl_39, nl_40, nl_41, nl_42, nl_43, nl_44, nl_45, nl_46, nl_47, nl_48, nl_49, nl_50, nl_51, nl_52, nl_53, nl_54, nl_55, nl_56, nl_57, nl_58, nl_59, nl_60, nl_61, nl_62, nl_64, nl_65, nl_66, nl_67, nl_68, nl_69, nl_92, nl_97, nl_99, nl_100, nl_122, nl_127, nl_128, nl_131, nl_132, nl_150, nl_200, nl_255, nl_256, nl_300, nl_342, nl_380, nl_381, nl_400, nl_401, nl_420, nl_500, nl_600, nl_800, nl_999, nl_1000, nl_1023, nl_1024, nl_1200, nl_2048, nl_2100, nl_4096, nl_9999, nl_10000, nl_10240, nl_999999, nl_1000000, if_pos, if_neg, e, h0]
theorem s_told194n {E : mj_E} {d w c : Nat} {hi : mj_HI} {hl : Nat → Nat → Int64} {n : Nat} {a : Int32} (hn : n ≤ 10) (ha0 : a ≠ 0) (ha : ¬ (nI 10 ≤ a ∧ a ≤ nI (9 + n))) (h0 : hi 194 0 = nI n) : mj_dc mj_P E (d + 1) 27 [.ref 194, .int a] (mj_hw w c hi hl) = some (some (.int (-1)), mj_hw w c hi hl) := by
  by_cases h1 : a < nI 10
  · simp (disch := omega) only [q27_0, q27_9, q27_47, q27_48, e27, ↓reduceIte, Bool.false_eq_true, eq_self, mj_10, mj_01, mj_n10, mj_0n1, mj_1n1, mj_n11, mj_bi_some, mj_bv_some, mj_bj_some, mj_br_some, mj_r0, mj_r1, mj_q0, mj_q1, mj_b01, mj_q2, if_true, if_false, mj_it, mj_if, true_and, and_true, false_and, and_false, not_true_eq_false, not_false_eq_true, true_or, or_true, false_or, or_false, mj_nIle, mj_nIlt, mj_nIeq, mj_nI0, mj_nIc, mj_nIadd, mj_nIs, mj_ez, mj_ze, mj_eo, mj_ltz, mj_lez, mj_zlt, mj_olt, mj_lto, mj_leo, mj_ole, mj_nIn, mj_nnI, nl_2, nl_3, nl_4, nl_5, nl_6, nl_7, nl_8, nl_9, nl_10, nl_11, nl_12, nl_13, nl_14, nl_15, nl_16, nl_17, nl_18, nl_19, nl_20, nl_21, nl_22, nl_23, nl_24, nl_25, nl_26, nl_27, nl_28, nl_29, nl_30, nl_32, nl_33, nl_34, nl_35, nl_36, nl_37, nl_38, nl_39, nl_40, nl_41, nl_42, nl_43, nl_44, nl_45, nl_46, nl_47, nl_48, nl_49, nl_50, nl_51, nl_52, nl_53, nl_54, nl_55, nl_56, nl_57, nl_58, nl_59, nl_60, nl_61, nl_62, nl_64, nl_65, nl_66, nl_67, nl_68, nl_69, nl_92, nl_97, nl_99, nl_100, nl_122, nl_127, nl_128, nl_131, nl_132, nl_150, nl_200, nl_255, nl_256, nl_300, nl_342, nl_380, nl_381, nl_400, nl_401, nl_420, nl_500, nl_600, nl_800, nl_999, nl_1000, nl_1023, nl_1024, nl_1200, nl_2048, nl_2100, nl_4096, nl_9999, nl_10000, nl_10240, nl_999999, nl_1000000, if_pos, if_neg, h1, ha0]
  · have h2 : nI 10 ≤ a := Int32.not_lt.mp h1
    obtain ⟨A, hA, rfl⟩ := mj_ofn (Int32.le_trans (by decide) h2)
    rw [mj_nIle (by omega) hA] at h2
    have h3 : ¬ A ≤ 9 + n := fun z => ha ⟨by rw [mj_nIle (by omega) hA]; exact h2, by rw [mj_nIle hA (by omega)]; exact z⟩
    have e : nI A - nI 10 = nI (A - 10) := mj_nIsub (by omega)
    simp (disch := omega) only [q27_0, q27_9, q27_47, q27_48, e27, ↓reduceIte, Bool.false_eq_true, eq_self, mj_10, mj_01, mj_n10, mj_0n1, mj_1n1, mj_n11, mj_bi_some, mj_bv_some, mj_bj_some, mj_br_some, mj_r0, mj_r1, mj_q0, mj_q1, mj_b01, mj_q2, if_true, if_false, mj_it, mj_if, true_and, and_true, false_and, and_false, not_true_eq_false, not_false_eq_true, true_or, or_true, false_or, or_false, mj_nIle, mj_nIlt, mj_nIeq, mj_nI0, mj_nIc, mj_nIadd, mj_nIs, mj_ez, mj_ze, mj_eo, mj_ltz, mj_lez, mj_zlt, mj_olt, mj_lto, mj_leo, mj_ole, mj_nIn, mj_nnI, nl_2, nl_3, nl_4, nl_5, nl_6, nl_7, nl_8, nl_9, nl_10, nl_11, nl_12, nl_13, nl_14, nl_15, nl_16, nl_17, nl_18, nl_19, nl_20, nl_21, nl_22, nl_23, nl_24, nl_25, nl_26, nl_27, nl_28, nl_29, nl_30, nl_32, nl_33, nl_34, nl_35, nl_36, nl_37, nl_38, nl_39, nl_40, nl_41, nl_42, nl_43, nl_44, nl_45, nl_46, nl_47, nl_48, nl_49, nl_50, nl_51, nl_52, nl_53, nl_54, nl_55, nl_56, nl_57, nl_58, nl_59, nl_60, nl_61, nl_62, nl_64, nl_65, nl_66, nl_67, nl_68, nl_69, nl_92, nl_97, nl_99, nl_100, nl_122, nl_127, nl_128, nl_131, nl_132, nl_150, nl_200, nl_255, nl_256, nl_300, nl_342, nl_380, nl_381, nl_400, nl_401, nl_420, nl_500, nl_600, nl_800, nl_999, nl_1000, nl_1023, nl_1024, nl_1200, nl_2048, nl_2100, nl_4096, nl_9999, nl_10000, nl_10240, nl_999999, nl_1000000, if_pos, if_neg, ha0, e, h0]
theorem cs_brings (a : Int32) : mj_Cs 139 274 [.int a] := by
  intro E d w c hi hl hE hw hI
  obtain ⟨n', l, q⟩ := iv_I_un.mp hI
  obtain ⟨n, x, y, n7, k1, k2, hxy⟩ := iv_bro q
  obtain ⟨G, hG⟩ := wq_G n x y
  have h128 : 2 ^ n ≤ 128 := Nat.pow_le_pow_right (n := 2) (by omega) n7
  have hpos : 1 ≤ 2 ^ n := Nat.two_pow_pos n
  obtain ⟨g, eg, g0, g1, g2, g3⟩ := s_sellBest (E := E) (d := d + 95) (w := w) (c := c) (hi := hi) (hl := hl) (x := x) (y := y) (G := G) n7 k1 (fun i hi => ⟨(hxy i hi).2.2.1, (hxy i hi).1⟩) (fun i hi => ⟨(hxy i hi).2.2.2.2.1, (hxy i hi).2.1⟩) hG
  have eg2 : mj_dc mj_P E (d + 99) 38 [.ref 194, .ref 34] (mj_hw w c hi hl) = _ := eg
  have k2' : g 205 54 = nI n := by rw [g3 _ _ (by omega) (by omega) (by omega)]; exact k2
  have k2'' : (mj_u g 205 0 0) 205 54 = nI n := by rw [mj_u_pt (by omega)]; exact k2'
  obtain ⟨f, ef, f1, f2⟩ := s_findsB (E := E) (d := d + 96) (w := w) (c := c) (hi := mj_u g 205 0 0) (hl := hl) (x := x) (y := y) (G := G) n7 k2'' (fun i hi => ⟨by rw [mj_u_pt (by omega), g3 _ _ (by omega) (by omega) (by omega)]; exact (hxy i hi).2.2.2.1, (hxy i hi).1⟩) (fun i hi => ⟨by rw [mj_u_pt (by omega), g3 _ _ (by omega) (by omega) (by omega)]; exact (hxy i hi).2.2.2.2.2, (hxy i hi).2.1⟩) hG
  have ef2 : mj_dc mj_P E (d + 99) 273 [.ref 205] (mj_hw w c (mj_u g 205 0 0) hl) = _ := ef
  have fI : iv_I f f := iv_J_same q (fun a k h => by rw [f2 _ _ (by omega), mj_u_pt (by omega), g3 _ _ (by omega) (by omega) (by omega)]) (fun a k h => by rw [f2 _ _ (by omega), mj_u_pt (by omega), g3 _ _ (by omega) (by omega) (by omega)]) (fun k h => by rw [f2 _ _ (by omega), mj_u_pt (by omega), g3 _ _ (by omega) (by omega) (by omega)])
  have gI : iv_I (mj_u g 205 0 0) (mj_u g 205 0 0) := iv_J_same q (fun a k h => by rw [mj_u_pt (by omega), g3 _ _ (by omega) (by omega) (by omega)]) (fun a k h => by rw [mj_u_pt (by omega), g3 _ _ (by omega) (by omega) (by omega)]) (fun k h => by rw [mj_u_pt (by omega), g3 _ _ (by omega) (by omega) (by omega)])
  by_cases h0 : a = 0
  · subst h0
    refine ⟨nI (G 0), w, c, g, hl, f, ?_, ?_, fI, hw⟩
    · simp (disch := omega) only [q139_0, q139_14, q139_22, e139, q27_0, q27_9, q27_47, q27_48, e27, ↓reduceIte, Bool.false_eq_true, eq_self, mj_10, mj_01, mj_n10, mj_0n1, mj_1n1, mj_n11, mj_bi_some, mj_bv_some, mj_bj_some, mj_br_some, mj_r0, mj_r1, mj_q0, mj_q1, mj_b01, mj_q2, if_true, if_false, mj_it, mj_if, true_and, and_true, false_and, and_false, not_true_eq_false, not_false_eq_true, true_or, or_true, false_or, or_false, mj_nIle, mj_nIlt, mj_nIeq, mj_nI0, mj_nIc, mj_nIadd, mj_nIs, mj_ez, mj_ze, mj_eo, mj_ltz, mj_lez, mj_zlt, mj_olt, mj_lto, mj_leo, mj_ole, mj_nIn, mj_nnI, nl_2, nl_3, nl_4, nl_5, nl_6, nl_7, nl_8, nl_9, nl_10, nl_11, nl_12, nl_13, nl_14, nl_15, nl_16, nl_17, nl_18, nl_19, nl_20, nl_21, nl_22, nl_23, nl_24, nl_25, nl_26, nl_27, nl_28, nl_29, nl_30, nl_32, nl_33, nl_34, nl_35, nl_36, nl_37, nl_38, nl_39, nl_40, nl_41, nl_42, nl_43, nl_44, nl_45, nl_46, nl_47, nl_48, nl_49, nl_50, nl_51, nl_52, nl_53, nl_54, nl_55, nl_56, nl_57, nl_58, nl_59, nl_60, nl_61, nl_62, nl_64, nl_65, nl_66, nl_67, nl_68, nl_69, nl_92, nl_97, nl_99, nl_100, nl_122, nl_127, nl_128, nl_131, nl_132, nl_150, nl_200, nl_255, nl_256, nl_300, nl_342, nl_380, nl_381, nl_400, nl_401, nl_420, nl_500, nl_600, nl_800, nl_999, nl_1000, nl_1023, nl_1024, nl_1200, nl_2048, nl_2100, nl_4096, nl_9999, nl_10000, nl_10240, nl_999999, nl_1000000, if_pos, if_neg, eg2, g1]
    · have f10 := f1 0 (by omega)
      simp (disch := omega) only [e274, q274_0, q274_28, q274_32, ↓reduceIte, Bool.false_eq_true, eq_self, mj_10, mj_01, mj_n10, mj_0n1, mj_1n1, mj_n11, mj_bi_some, mj_bv_some, mj_bj_some, mj_br_some, mj_r0, mj_r1, mj_q0, mj_q1, mj_b01, mj_q2, if_true, if_false, mj_it, mj_if, true_and, and_true, false_and, and_false, not_true_eq_false, not_false_eq_true, true_or, or_true, false_or, or_false, mj_nIle, mj_nIlt, mj_nIeq, mj_nI0, mj_nIc, mj_nIadd, mj_nIs, mj_ez, mj_ze, mj_eo, mj_ltz, mj_lez, mj_zlt, mj_olt, mj_lto, mj_leo, mj_ole, mj_nIn, mj_nnI, nl_2, nl_3, nl_4, nl_5, nl_6, nl_7, nl_8, nl_9, nl_10, nl_11, nl_12, nl_13, nl_14, nl_15, nl_16, nl_17, nl_18, nl_19, nl_20, nl_21, nl_22, nl_23, nl_24, nl_25, nl_26, nl_27, nl_28, nl_29, nl_30, nl_32, nl_33, nl_34, nl_35, nl_36, nl_37, nl_38, nl_39, nl_40, nl_41, nl_42, nl_43, nl_44, nl_45, nl_46, nl_47, nl_48, nl_49, nl_50, nl_51, nl_52, nl_53, nl_54, nl_55, nl_56, nl_57, nl_58, nl_59, nl_60, nl_61, nl_62, nl_64, nl_65, nl_66, nl_67, nl_68, nl_69, nl_92, nl_97, nl_99, nl_100, nl_122, nl_127, nl_128, nl_131, nl_132, nl_150, nl_200, nl_255, nl_256, nl_300, nl_342, nl_380, nl_381, nl_400, nl_401, nl_420, nl_500, nl_600, nl_800, nl_999, nl_1000, nl_1023, nl_1024, nl_1200, nl_2048, nl_2100, nl_4096, nl_9999, nl_10000, nl_10240, nl_999999, nl_1000000, if_pos, if_neg, ef2, vi_c0, mj_00, f10]
  · by_cases ha : nI 10 ≤ a ∧ a ≤ nI (9 + n)
    · obtain ⟨A, hA, rfl⟩ := mj_ofn (Int32.le_trans (by decide) ha.1)
      have hA1 : 10 ≤ A := by have := ha.1; rw [mj_nIle (by omega) hA] at this; exact this
      have hA2 : A ≤ 9 + n := by have := ha.2; rw [mj_nIle hA (by omega)] at this; exact this
      obtain ⟨K, rfl⟩ : ∃ K, A = 10 + K := ⟨A - 10, by omega⟩
      refine ⟨wz_io (wq_ix n x y G (wq_S n x y G K)), w, c, g, hl, f, ?_, ?_, fI, hw⟩
      · have e1 : mj_dc mj_P E (d + 99) 27 [.ref 194, .int (nI (10 + K))] (mj_hw w c g hl) = _ := s_told194 (d := d + 98) (n := n) (by omega) (by omega) g0
        rw [g2 K (by omega)] at e1
        simp (disch := omega) only [q139_0, q139_14, q139_22, e139, ↓reduceIte, Bool.false_eq_true, eq_self, mj_10, mj_01, mj_n10, mj_0n1, mj_1n1, mj_n11, mj_bi_some, mj_bv_some, mj_bj_some, mj_br_some, mj_r0, mj_r1, mj_q0, mj_q1, mj_b01, mj_q2, if_true, if_false, mj_it, mj_if, true_and, and_true, false_and, and_false, not_true_eq_false, not_false_eq_true, true_or, or_true, false_or, or_false, mj_nIle, mj_nIlt, mj_nIeq, mj_nI0, mj_nIc, mj_nIadd, mj_nIs, mj_ez, mj_ze, mj_eo, mj_ltz, mj_lez, mj_zlt, mj_olt, mj_lto, mj_leo, mj_ole, mj_nIn, mj_nnI, nl_2, nl_3, nl_4, nl_5, nl_6, nl_7, nl_8, nl_9, nl_10, nl_11, nl_12, nl_13, nl_14, nl_15, nl_16, nl_17, nl_18, nl_19, nl_20, nl_21, nl_22, nl_23, nl_24, nl_25, nl_26, nl_27, nl_28, nl_29, nl_30, nl_32, nl_33, nl_34, nl_35, nl_36, nl_37, nl_38, nl_39, nl_40, nl_41, nl_42, nl_43, nl_44, nl_45, nl_46, nl_47, nl_48, nl_49, nl_50, nl_51, nl_52, nl_53, nl_54, nl_55, nl_56, nl_57, nl_58, nl_59, nl_60, nl_61, nl_62, nl_64, nl_65, nl_66, nl_67, nl_68, nl_69, nl_92, nl_97, nl_99, nl_100, nl_122, nl_127, nl_128, nl_131, nl_132, nl_150, nl_200, nl_255, nl_256, nl_300, nl_342, nl_380, nl_381, nl_400, nl_401, nl_420, nl_500, nl_600, nl_800, nl_999, nl_1000, nl_1023, nl_1024, nl_1200, nl_2048, nl_2100, nl_4096, nl_9999, nl_10000, nl_10240, nl_999999, nl_1000000, if_pos, if_neg, eg2, e1]
      · have hin : (nI 10 ≤ nI (10 + K) ∧ nI (10 + K) ≤ nI (9 + n)) := ha
        have hT : ∀ s, wp_cs y s n < 1000 := fun s => by
          have := wy_cs_bd (y := y) (s := s) (b := 9) n (fun i hi => (hxy i hi).2.1)
          omega
        have hGb : ∀ s, s ≤ 2 ^ n - 1 → G s ≤ 20000 := fun s hs => by
          have := wq_bd (fun i hi => (hxy i hi).1) hG s hs
          omega
        have fn : f 205 54 = nI n := by rw [f2 _ _ (by omega)]; exact k2''
        -- one step of the order
        have hstep : ∀ k, k < n → ∀ v3 : Int32, ∃ i, wq_ix n x y G (wq_S n x y G k) = some i ∧ mj_den mj_P E (d + 99) 274 61 [.ref 205, .int (nI (10 + K)), .int (nI (wq_S n x y G k)), .int 0, .int (nI k)] [] (mj_hw w c f hl) = mj_den mj_P E (d + 99) 274 50 [.ref 205, .int (nI (10 + K)), .int (nI (wq_S n x y G (k + 1))), .int (nI i), .int (nI (k + 1))] [] (mj_hw w c f hl) := by
          intro k hk v3
          have hSl := wq_S_lt n x y G k
          obtain ⟨i, hix⟩ := (wq_S_pc n x y G k (by omega)).2 hk
          obtain ⟨i1, i2, i3, i4⟩ := (wz_ix_ok _ _ n).2 i hix
          refine ⟨i, hix, ?_⟩
          rw [wq_S_s hix]
          have hGs := hG (wq_S n x y G k) (by omega)
          unfold wq_F at hGs
          rw [hix] at hGs
          have hGs : G (wq_S n x y G k) = wq_g n x y G (wq_S n x y G k) i := hGs
          have hgb : ∀ j, j < n → (wq_S n x y G k).testBit j = false → mj_dc mj_P E (d + 99) 272 [.ref 205, .int (nI (wq_S n x y G k)), .int (nI j)] (mj_hw w c f hl) = some (some (.int (nI (wq_g n x y G (wq_S n x y G k) j))), mj_hw w c f hl) ∧ wq_g n x y G (wq_S n x y G k) j ≤ 30000 := fun j hj hb => by
            have hlt : (wq_S n x y G k) ||| 2 ^ j < 2 ^ n := Nat.or_lt_two_pow hSl (Nat.pow_lt_pow_right (by omega) hj)
            refine ⟨s_broughtBy (d := d + 97) n7 hj hSl (hT _) fn (by rw [f2 _ _ (by omega), mj_u_pt (by omega), g3 _ _ (by omega) (by omega) (by omega)]; exact (hxy j hj).2.2.2.1) (hxy j hj).1 (fun i hi => by rw [f2 _ _ (by omega), mj_u_pt (by omega), g3 _ _ (by omega) (by omega) (by omega)]; exact (hxy i hi).2.2.2.2.2) (f1 _ (by omega)), ?_⟩
            have := hGb _ (show (wq_S n x y G k) ||| 2 ^ j ≤ 2 ^ n - 1 by omega)
            have := (hxy j hj).1
            unfold wq_g; omega
          have f1k := f1 (wq_S n x y G k) (by omega)
          generalize wq_S n x y G k = s at hSl i2 i3 i4 hGs hgb f1k
          refine (lp_up (fun j => mj_den mj_P E (d + 99) 274 61 [.ref 205, .int (nI (10 + K)), .int (nI s), .int (nI j), .int (nI k)] [] (mj_hw w c f hl)) i (fun j hj => ?_)).trans ?_
          · show mj_den mj_P E (d + 99) 274 61 [.ref 205, .int (nI (10 + K)), .int (nI s), .int (nI j), .int (nI k)] [] (mj_hw w c f hl) = mj_den mj_P E (d + 99) 274 61 [.ref 205, .int (nI (10 + K)), .int (nI s), .int (nI (j + 1)), .int (nI k)] [] (mj_hw w c f hl)
            rw [q274_61]
            by_cases hb : s.testBit j = true
            · simp (disch := omega) only [↓reduceIte, Bool.false_eq_true, eq_self, mj_10, mj_01, mj_n10, mj_0n1, mj_1n1, mj_n11, mj_bi_some, mj_bv_some, mj_bj_some, mj_br_some, mj_r0, mj_r1, mj_q0, mj_q1, mj_b01, mj_q2, if_true, if_false, mj_it, mj_if, true_and, and_true, false_and, and_false, not_true_eq_false, not_false_eq_true, true_or, or_true, false_or, or_false, mj_nIle, mj_nIlt, mj_nIeq, mj_nI0, mj_nIc, mj_nIadd, mj_nIs, mj_ez, mj_ze, mj_eo, mj_ltz, mj_lez, mj_zlt, mj_olt, mj_lto, mj_leo, mj_ole, mj_nIn, mj_nnI, nl_2, nl_3, nl_4, nl_5, nl_6, nl_7, nl_8, nl_9, nl_10, nl_11, nl_12, nl_13, nl_14, nl_15, nl_16, nl_17, nl_18, nl_19, nl_20, nl_21, nl_22, nl_23, nl_24, nl_25, nl_26, nl_27, nl_28, nl_29, nl_30, nl_32, nl_33, nl_34, nl_35, nl_36, nl_37, nl_38, nl_39, nl_40, nl_41, nl_42, nl_43, nl_44, nl_45, nl_46, nl_47, nl_48, nl_49, nl_50, nl_51, nl_52, nl_53, nl_54, nl_55, nl_56, nl_57, nl_58, nl_59, nl_60, nl_61, nl_62, nl_64, nl_65, nl_66, nl_67, nl_68, nl_69, nl_92, nl_97, nl_99, nl_100, nl_122, nl_127, nl_128, nl_131, nl_132, nl_150, nl_200, nl_255, nl_256, nl_300, nl_342, nl_380, nl_381, nl_400, nl_401, nl_420, nl_500, nl_600, nl_800, nl_999, nl_1000, nl_1023, nl_1024, nl_1200, nl_2048, nl_2100, nl_4096, nl_9999, nl_10000, nl_10240, nl_999999, nl_1000000, if_pos, if_neg, s_hM, hb, q274_67, q274_85]
            · have hb2 : s.testBit j = false := by simpa using hb
              obtain ⟨eb, bb⟩ := hgb j (by omega) hb2
              obtain ⟨_, bi⟩ := hgb i i1 i2
              have hlt := i3 j hj hb2
              have hne : ¬ wq_g n x y G s j = G s := by rw [hGs]; intro z; rw [z] at hlt; omega
              have hGsb : G s ≤ 30000 := by rw [hGs]; exact bi
              simp (disch := omega) only [↓reduceIte, Bool.false_eq_true, eq_self, mj_10, mj_01, mj_n10, mj_0n1, mj_1n1, mj_n11, mj_bi_some, mj_bv_some, mj_bj_some, mj_br_some, mj_r0, mj_r1, mj_q0, mj_q1, mj_b01, mj_q2, if_true, if_false, mj_it, mj_if, true_and, and_true, false_and, and_false, not_true_eq_false, not_false_eq_true, true_or, or_true, false_or, or_false, mj_nIle, mj_nIlt, mj_nIeq, mj_nI0, mj_nIc, mj_nIadd, mj_nIs, mj_ez, mj_ze, mj_eo, mj_ltz, mj_lez, mj_zlt, mj_olt, mj_lto, mj_leo, mj_ole, mj_nIn, mj_nnI, nl_2, nl_3, nl_4, nl_5, nl_6, nl_7, nl_8, nl_9, nl_10, nl_11, nl_12, nl_13, nl_14, nl_15, nl_16, nl_17, nl_18, nl_19, nl_20, nl_21, nl_22, nl_23, nl_24, nl_25, nl_26, nl_27, nl_28, nl_29, nl_30, nl_32, nl_33, nl_34, nl_35, nl_36, nl_37, nl_38, nl_39, nl_40, nl_41, nl_42, nl_43, nl_44, nl_45, nl_46, nl_47, nl_48, nl_49, nl_50, nl_51, nl_52, nl_53, nl_54, nl_55, nl_56, nl_57, nl_58, nl_59, nl_60, nl_61, nl_62, nl_64, nl_65, nl_66, nl_67, nl_68, nl_69, nl_92, nl_97, nl_99, nl_100, nl_122, nl_127, nl_128, nl_131, nl_132, nl_150, nl_200, nl_255, nl_256, nl_300, nl_342, nl_380, nl_381, nl_400, nl_401, nl_420, nl_500, nl_600, nl_800, nl_999, nl_1000, nl_1023, nl_1024, nl_1200, nl_2048, nl_2100, nl_4096, nl_9999, nl_10000, nl_10240, nl_999999, nl_1000000, if_pos, if_neg, s_hM, hb, q274_67, eb, q274_76, f1k, hne, q274_85]
          · show mj_den mj_P E (d + 99) 274 61 [.ref 205, .int (nI (10 + K)), .int (nI s), .int (nI i), .int (nI k)] [] (mj_hw w c f hl) = _
            obtain ⟨eb, bb⟩ := hgb i i1 i2
            rw [q274_61]
            simp (disch := omega) only [↓reduceIte, Bool.false_eq_true, eq_self, mj_10, mj_01, mj_n10, mj_0n1, mj_1n1, mj_n11, mj_bi_some, mj_bv_some, mj_bj_some, mj_br_some, mj_r0, mj_r1, mj_q0, mj_q1, mj_b01, mj_q2, if_true, if_false, mj_it, mj_if, true_and, and_true, false_and, and_false, not_true_eq_false, not_false_eq_true, true_or, or_true, false_or, or_false, mj_nIle, mj_nIlt, mj_nIeq, mj_nI0, mj_nIc, mj_nIadd, mj_nIs, mj_ez, mj_ze, mj_eo, mj_ltz, mj_lez, mj_zlt, mj_olt, mj_lto, mj_leo, mj_ole, mj_nIn, mj_nnI, nl_2, nl_3, nl_4, nl_5, nl_6, nl_7, nl_8, nl_9, nl_10, nl_11, nl_12, nl_13, nl_14, nl_15, nl_16, nl_17, nl_18, nl_19, nl_20, nl_21, nl_22, nl_23, nl_24, nl_25, nl_26, nl_27, nl_28, nl_29, nl_30, nl_32, nl_33, nl_34, nl_35, nl_36, nl_37, nl_38, nl_39, nl_40, nl_41, nl_42, nl_43, nl_44, nl_45, nl_46, nl_47, nl_48, nl_49, nl_50, nl_51, nl_52, nl_53, nl_54, nl_55, nl_56, nl_57, nl_58, nl_59, nl_60, nl_61, nl_62, nl_64, nl_65, nl_66, nl_67, nl_68, nl_69, nl_92, nl_97, nl_99, nl_100, nl_122, nl_127, nl_128, nl_131, nl_132, nl_150, nl_200, nl_255, nl_256, nl_300, nl_342, nl_380, nl_381, nl_400, nl_401, nl_420, nl_500, nl_600, nl_800, nl_999, nl_1000, nl_1023, nl_1024, nl_1200, nl_2048, nl_2100, nl_4096, nl_9999, nl_10000, nl_10240, nl_999999, nl_1000000, if_pos, if_neg, s_hM, i2, q274_67, eb, q274_76, f1k, hGs, q274_92, bx_one, bx_or]
        obtain ⟨iK, hiK⟩ := (wq_S_pc n x y G K (by omega)).2 (by omega)
        have hE1 : nI (10 + K) - nI 10 = nI K := by rw [mj_nIsub (by omega)]; congr 1; omega
        have hin2 : (nI 10 ≤ nI (10 + K) ∧ nI (10 + K) ≤ nI 9 + nI n) := by rw [mj_nIadd]; exact hin
        have key := lp_ex (fun k (v3 : Int32) => mj_den mj_P E (d + 99) 274 50 [.ref 205, .int (nI (10 + K)), .int (nI (wq_S n x y G k)), .int v3, .int (nI k)] [] (mj_hw w c f hl)) (fun k v3 => k ≠ 0 → v3 = wz_io (wq_ix n x y G (wq_S n x y G (k - 1)))) (K + 1) (fun k v3 hk _ => ?_) (-1) (fun z => absurd rfl z)
        · obtain ⟨v3, e3, hv3⟩ := key
          have hv3 := hv3 (by omega)
          rw [show K + 1 - 1 = K by omega] at hv3
          subst hv3
          simp (disch := omega) only [e274, q274_0, q274_23, q274_28, q274_32, q274_43, s_isIn, ↓reduceIte, Bool.false_eq_true, eq_self, mj_10, mj_01, mj_n10, mj_0n1, mj_1n1, mj_n11, mj_bi_some, mj_bv_some, mj_bj_some, mj_br_some, mj_r0, mj_r1, mj_q0, mj_q1, mj_b01, mj_q2, if_true, if_false, mj_it, mj_if, true_and, and_true, false_and, and_false, not_true_eq_false, not_false_eq_true, true_or, or_true, false_or, or_false, mj_nIle, mj_nIlt, mj_nIeq, mj_nI0, mj_nIc, mj_nIadd, mj_nIs, mj_ez, mj_ze, mj_eo, mj_ltz, mj_lez, mj_zlt, mj_olt, mj_lto, mj_leo, mj_ole, mj_nIn, mj_nnI, nl_2, nl_3, nl_4, nl_5, nl_6, nl_7, nl_8, nl_9, nl_10, nl_11, nl_12, nl_13, nl_14, nl_15, nl_16, nl_17, nl_18, nl_19, nl_20, nl_21, nl_22, nl_23, nl_24, nl_25, nl_26, nl_27, nl_28, nl_29, nl_30, nl_32, nl_33, nl_34, nl_35, nl_36, nl_37, nl_38, nl_39, nl_40, nl_41, nl_42, nl_43, nl_44, nl_45, nl_46, nl_47, nl_48, nl_49, nl_50, nl_51, nl_52, nl_53, nl_54, nl_55, nl_56, nl_57, nl_58, nl_59, nl_60, nl_61, nl_62, nl_64, nl_65, nl_66, nl_67, nl_68, nl_69, nl_92, nl_97, nl_99, nl_100, nl_122, nl_127, nl_128, nl_131, nl_132, nl_150, nl_200, nl_255, nl_256, nl_300, nl_342, nl_380, nl_381, nl_400, nl_401, nl_420, nl_500, nl_600, nl_800, nl_999, nl_1000, nl_1023, nl_1024, nl_1200, nl_2048, nl_2100, nl_4096, nl_9999, nl_10000, nl_10240, nl_999999, nl_1000000, if_pos, if_neg, h0, k2', hin2, ef2]
          refine Eq.trans e3 ?_
          show mj_den mj_P E (d + 99) 274 50 [.ref 205, .int (nI (10 + K)), .int (nI (wq_S n x y G (K + 1))), .int (wz_io (wq_ix n x y G (wq_S n x y G K))), .int (nI (K + 1))] [] (mj_hw w c f hl) = _
          rw [q274_50, nl_10, hE1, if_pos (by rw [mj_nIlt (by omega) (by omega)]; omega), q274_104]
        · obtain ⟨i, hi1, hi2⟩ := hstep k (by omega) v3
          refine ⟨nI i, ?_, fun _ => by rw [show k + 1 - 1 = k by omega, hi1]; rfl⟩
          show mj_den mj_P E (d + 99) 274 50 [.ref 205, .int (nI (10 + K)), .int (nI (wq_S n x y G k)), .int v3, .int (nI k)] [] (mj_hw w c f hl) = _
          rw [q274_50, nl_10, hE1, if_neg (by rw [mj_nIlt (by omega) (by omega)]; omega)]
          exact hi2
    · refine ⟨-1, w, c, g, hl, mj_u g 205 0 0, ?_, ?_, gI, hw⟩
      · have e1 : mj_dc mj_P E (d + 99) 27 [.ref 194, .int a] (mj_hw w c g hl) = _ := s_told194n (d := d + 98) (n := n) (by omega) h0 ha g0
        simp (disch := omega) only [q139_0, q139_14, q139_22, e139, ↓reduceIte, Bool.false_eq_true, eq_self, mj_10, mj_01, mj_n10, mj_0n1, mj_1n1, mj_n11, mj_bi_some, mj_bv_some, mj_bj_some, mj_br_some, mj_r0, mj_r1, mj_q0, mj_q1, mj_b01, mj_q2, if_true, if_false, mj_it, mj_if, true_and, and_true, false_and, and_false, not_true_eq_false, not_false_eq_true, true_or, or_true, false_or, or_false, mj_nIle, mj_nIlt, mj_nIeq, mj_nI0, mj_nIc, mj_nIadd, mj_nIs, mj_ez, mj_ze, mj_eo, mj_ltz, mj_lez, mj_zlt, mj_olt, mj_lto, mj_leo, mj_ole, mj_nIn, mj_nnI, nl_2, nl_3, nl_4, nl_5, nl_6, nl_7, nl_8, nl_9, nl_10, nl_11, nl_12, nl_13, nl_14, nl_15, nl_16, nl_17, nl_18, nl_19, nl_20, nl_21, nl_22, nl_23, nl_24, nl_25, nl_26, nl_27, nl_28, nl_29, nl_30, nl_32, nl_33, nl_34, nl_35, nl_36, nl_37, nl_38, nl_39, nl_40, nl_41, nl_42, nl_43, nl_44, nl_45, nl_46, nl_47, nl_48, nl_49, nl_50, nl_51, nl_52, nl_53, nl_54, nl_55, nl_56, nl_57, nl_58, nl_59, nl_60, nl_61, nl_62, nl_64, nl_65, nl_66, nl_67, nl_68, nl_69, nl_92, nl_97, nl_99, nl_100, nl_122, nl_127, nl_128, nl_131, nl_132, nl_150, nl_200, nl_255, nl_256, nl_300, nl_342, nl_380, nl_381, nl_400, nl_401, nl_420, nl_500, nl_600, nl_800, nl_999, nl_1000, nl_1023, nl_1024, nl_1200, nl_2048, nl_2100, nl_4096, nl_9999, nl_10000, nl_10240, nl_999999, nl_1000000, if_pos, if_neg, eg2, e1]
      · have ha2 : ¬ (nI 10 ≤ a ∧ a ≤ nI 9 + nI n) := by rw [mj_nIadd]; exact ha
        simp (disch := omega) only [e274, q274_0, q274_23, s_isIn, ↓reduceIte, Bool.false_eq_true, eq_self, mj_10, mj_01, mj_n10, mj_0n1, mj_1n1, mj_n11, mj_bi_some, mj_bv_some, mj_bj_some, mj_br_some, mj_r0, mj_r1, mj_q0, mj_q1, mj_b01, mj_q2, if_true, if_false, mj_it, mj_if, true_and, and_true, false_and, and_false, not_true_eq_false, not_false_eq_true, true_or, or_true, false_or, or_false, mj_nIle, mj_nIlt, mj_nIeq, mj_nI0, mj_nIc, mj_nIadd, mj_nIs, mj_ez, mj_ze, mj_eo, mj_ltz, mj_lez, mj_zlt, mj_olt, mj_lto, mj_leo, mj_ole, mj_nIn, mj_nnI, nl_2, nl_3, nl_4, nl_5, nl_6, nl_7, nl_8, nl_9, nl_10, nl_11, nl_12, nl_13, nl_14, nl_15, nl_16, nl_17, nl_18, nl_19, nl_20, nl_21, nl_22, nl_23, nl_24, nl_25, nl_26, nl_27, nl_28, nl_29, nl_30, nl_32, nl_33, nl_34, nl_35, nl_36, nl_37, nl_38, nl_39, nl_40, nl_41, nl_42, nl_43, nl_44, nl_45, nl_46, nl_47, nl_48, nl_49, nl_50, nl_51, nl_52, nl_53, nl_54, nl_55, nl_56, nl_57, nl_58, nl_59, nl_60, nl_61, nl_62, nl_64, nl_65, nl_66, nl_67, nl_68, nl_69, nl_92, nl_97, nl_99, nl_100, nl_122, nl_127, nl_128, nl_131, nl_132, nl_150, nl_200, nl_255, nl_256, nl_300, nl_342, nl_380, nl_381, nl_400, nl_401, nl_420, nl_500, nl_600, nl_800, nl_999, nl_1000, nl_1023, nl_1024, nl_1200, nl_2048, nl_2100, nl_4096, nl_9999, nl_10000, nl_10240, nl_999999, nl_1000000, if_pos, if_neg, h0, k2', ha2]
