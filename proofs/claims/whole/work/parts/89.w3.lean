def wr_C (a b : Nat → Nat) (t s x : Nat) : Nat := iv_cnt (fun i => decide (b i = x ∧ ¬ s.testBit (a i) = true)) t
theorem wr_C_bd {a b : Nat → Nat} {t : Nat} (ht : t ≤ 16) (s x : Nat) : wr_C a b t s x ≤ 16 := Nat.le_trans (iv_cnt_bd _ t) ht
theorem wr_cost {a b : Nat → Nat} {t c k : Nat} (hab : ∀ i, i < t → a i < 10 ∧ b i < 10) (hk : k < mj_pc 10 (wt a b t)) : iv_cnt (fun i => decide (mj_pc (b i) (wt a b t) = k ∧ ¬ c.testBit (mj_pc (a i) (wt a b t)) = true)) t = wr_C a b t (wim (wt a b t) c) (wm (wt a b t) k) := by
  refine iv_cnt_congr t (fun i hi => ?_)
  obtain ⟨ha, hb⟩ := hab i hi
  have Ta : (wt a b t).testBit (a i) = true := (wt_bit a b _ t).mpr ⟨i, hi, Or.inl rfl⟩
  have Tb : (wt a b t).testBit (b i) = true := (wt_bit a b _ t).mpr ⟨i, hi, Or.inr rfl⟩
  have hw : (wim (wt a b t) c).testBit (a i) = c.testBit (mj_pc (a i) (wt a b t)) := by rw [wim_bit, decide_eq_true ha, Ta, Bool.true_and, Bool.true_and]
  refine decide_eq_decide.mpr ⟨fun h => ⟨?_, by rw [hw]; exact h.2⟩, fun h => ⟨?_, by rw [← hw]; exact h.2⟩⟩
  · rw [← h.1]; exact ((wm_of hb Tb).2).symm
  · rw [h.1]; exact (wm_ok hk).2.2
theorem wr_RT {C : Nat → Nat → Nat} {T : Nat} {R : Nat → Nat} (hT : T < 1024) (hR : ∀ s, s ≤ 1023 → R s = wr_F C T R s) : R T = 0 := by
  rw [hR T (by omega)]
  unfold wr_F
  cases hw : wr_ix C R T T with
  | none => rfl
  | some i =>
    obtain ⟨h1, h2, _, _⟩ := (wz_ix_ok _ _ 10).2 i hw
    have := (wbl_clear h1).mp h2
    rw [this.1] at this; cases this.2
section MJ89y
variable {E : mj_E} {d w c : Nat} {hi : mj_HI} {hl : Nat → Nat → Int64}
theorem s_rank {t : Nat} {a b : Nat → Nat} {R : Nat → Nat} (ht : t ≤ 16) (h0 : hi 34 0 = nI t) (hab : ∀ i, i < t → hi 35 i = nI (a i) ∧ hi 36 i = nI (b i) ∧ a i < 10 ∧ b i < 10) (hR : ∀ s, s ≤ 1023 → R s = wr_F (wr_C a b t) (wt a b t) R s) : ∃ g : mj_HI, mj_dc mj_P E (d + 4) 34 [.ref 194, .ref 34] (mj_hw w c hi hl) = some (none, mj_hw w c g hl) ∧ g 194 0 = nI (mj_pc 10 (wt a b t)) ∧ g 194 1 = nI (R 0) ∧ (∀ k, k < mj_pc 10 (wt a b t) → g 195 k = wz_io (wr_ix (wr_C a b t) R (wt a b t) (wo_S (wr_ix (wr_C a b t) R (wt a b t)) k))) ∧ ∀ x k, ¬ (194 ≤ x ∧ x ≤ 201) → g x k = hi x k := by
  have hT := wt_lt (a := a) (b := b) t (fun i hi => (hab i hi).2.2)
  have hab' : ∀ i, i < t → a i < 10 ∧ b i < 10 := fun i hi => (hab i hi).2.2
  have hRb := wr_bd (wr_C_bd (a := a) (b := b) ht) hR
  obtain ⟨g1, eg, q0, q1, q2, q3⟩ := s_learnS (E := E) (d := d) (w := w) (c := c) (hi := hi) (hl := hl) ht h0 hab
  have hcost := fun c k => wr_cost (a := a) (b := b) (t := t) (c := c) (k := k) hab'
  have hTab : ∀ i, i < t → (wt a b t).testBit (a i) = true ∧ (wt a b t).testBit (b i) = true := fun i hi => ⟨(wt_bit a b _ t).mpr ⟨i, hi, Or.inl rfl⟩, (wt_bit a b _ t).mpr ⟨i, hi, Or.inr rfl⟩⟩
  generalize wt a b t = T at hT hR hRb q0 q1 q2 hcost hTab
  generalize hC : wr_C a b t = C at hR hRb hcost
  obtain ⟨n, hn⟩ : ∃ n, n = mj_pc 10 T := ⟨_, rfl⟩
  have n10 : n ≤ 10 := by rw [hn]; exact iv_cnt_bd _ 10
  have h1024 : 2 ^ n ≤ 1024 := Nat.pow_le_pow_right (n := 2) (by omega) n10
  have hpos : 1 ≤ 2 ^ n := Nat.two_pow_pos n
  have hfull : wim T (2 ^ n - 1) = T := by rw [hn]; exact wim_full hT
  have hRT : R T = 0 := wr_RT hT hR
  have hwl : ∀ i, i < t → mj_pc (a i) T < 10 ∧ mj_pc (b i) T < n := fun i hi => by
    have h1 := (wm_of (hab' i hi).1 (hTab i hi).1).1
    have h2 := (wm_of (hab' i hi).2 (hTab i hi).2).1
    omega
  have hRw : ∀ u, R (wim T u) ≤ 20000 := fun u => by have h1 := wim_lt T u; have h2 := hRb (wim T u) (by omega); omega
  -- one set: what comes next behind it, and what that costs
  have hstep : ∀ (s : Nat) (h : mj_HI), s < 2 ^ n → (∀ x k, x ≠ 195 → x ≠ 197 → x ≠ 201 → ¬ (x = 194 ∧ k = 1) → h x k = g1 x k) → (∀ k, k < n → s.testBit k = false → h 201 (s ||| 2 ^ k) = nI (R (wim T (s ||| 2 ^ k)))) → ∃ g2 : mj_HI, mj_dc mj_P E (d + 3) 36 [.ref 194, .int (nI t), .int (nI s)] (mj_hw w c h hl) = some (none, mj_hw w c g2 hl) ∧ (∀ x k, x ≠ 197 → g2 x k = h x k) ∧ ∃ o, mj_dc mj_P E (d + 3) 37 [.ref 194, .int (nI s)] (mj_hw w c g2 hl) = some (some (.int (wz_io o)), mj_hw w c g2 hl) ∧ wr_ix C R T (wim T s) = o.map (wm T) ∧ ∀ k, o = some k → k < n ∧ s.testBit k = false ∧ s ||| 2 ^ k < 2 ^ n ∧ g2 197 k + g2 201 (s ||| 2 ^ k) = nI (R (wim T s)) := by
    intro s h hs hf hb
    obtain ⟨g2, e36, a1, a2⟩ := s_against (E := E) (d := d + 1) (w := w) (c := c) (hi := h) (hl := hl) (t := t) (n := n) (s := s) (wn := fun i => mj_pc (a i) T) (ls := fun i => mj_pc (b i) T) ht n10 (by omega) (by rw [hf _ _ (by omega) (by omega) (by omega) (by omega), hn]; exact q0) (fun i hi => ⟨by rw [hf _ _ (by omega) (by omega) (by omega) (by omega)]; exact (q2 i hi).1, by rw [hf _ _ (by omega) (by omega) (by omega) (by omega)]; exact (q2 i hi).2, (hwl i hi).1, (hwl i hi).2⟩)
    have hgk : ∀ k, k < n → s.testBit k = false → g2 197 k + g2 201 (s ||| 2 ^ k) = nI (wr_g C R (wim T s) (wm T k)) ∧ wr_g C R (wim T s) (wm T k) ≤ 30000 := fun k hk hc => by
      have hk' : k < mj_pc 10 T := by rw [← hn]; exact hk
      have e1 : g2 197 k = nI (C (wim T s) (wm T k)) := by rw [a1 k hk, ← hcost s k hk']
      have hcb : C (wim T s) (wm T k) ≤ 16 := by rw [← hC]; exact wr_C_bd ht _ _
      have hr := hRw (s ||| 2 ^ k)
      unfold wr_g
      rw [e1, a2 _ _ (by omega), hb k hk hc, ← wim_or hk', mj_nIadd]
      exact ⟨rfl, by omega⟩
    refine ⟨g2, e36, a2, wz_ix (fun k => wr_g C R (wim T s) (wm T k)) s n, s_bestRank (d := d + 1) n10 hs (by rw [a2 _ _ (by omega), hf _ _ (by omega) (by omega) (by omega) (by omega), hn]; exact q0) hgk, ?_, fun k hk => ?_⟩
    · rw [hn]; exact wz_tr (fun k _ _ => rfl)
    · obtain ⟨k1, k2, _, _⟩ := (wz_ix_ok _ _ n).2 k hk
      refine ⟨k1, k2, Nat.or_lt_two_pow hs (Nat.pow_lt_pow_right (by omega) k1), ?_⟩
      rw [(hgk k k1 k2).1]
      have hl := wim_lt T s
      have h3 : wr_ix C R T (wim T s) = some (wm T k) := by
        have : wr_ix C R T (wim T s) = (wz_ix (fun k => wr_g C R (wim T s) (wm T k)) s (mj_pc 10 T)).map (wm T) := wz_tr (fun k _ _ => rfl)
        rw [this, ← hn, hk]; rfl
      rw [hR (wim T s) (by omega)]
      unfold wr_F
      rw [h3]; rfl
  have key1 := lp_ex (fun j (q : Value × mj_HI) => mj_den mj_P E (d + 3) 34 27 [.ref 194, .ref 34, .int (nI t), .int (nI (2 ^ n - 1)), .int (nI (2 ^ n - 1 - j) - 1), q.1, .float 0] [] (mj_hw w c q.2 hl)) (fun j q => (∀ u, 2 ^ n - 1 - j ≤ u → u ≤ 2 ^ n - 1 → q.2 201 u = nI (R (wim T u))) ∧ ∀ x k, x ≠ 197 → x ≠ 201 → q.2 x k = g1 x k) (2 ^ n - 1) (fun j q hj hI => ?_) (.float 0, mj_u g1 201 (2 ^ n - 1) 0) ⟨fun u h1 h2 => by
      show mj_u g1 201 (2 ^ n - 1) 0 201 u = _
      rw [show u = 2 ^ n - 1 by omega, mj_u_eq, hfull, hRT]; rfl, fun x k h1 h2 => by
      show mj_u g1 201 (2 ^ n - 1) 0 x k = _
      rw [mj_u_pt (by omega)]⟩
  · obtain ⟨⟨u5, g3⟩, e1, a2, a3⟩ := key1
    simp only at a2 a3
    have key2 := lp_ex (fun k (q : Nat × Value × mj_HI) => mj_den mj_P E (d + 3) 34 106 [.ref 194, .ref 34, .int (nI t), .int (nI (2 ^ n - 1)), .int (nI q.1), .int (nI k), q.2.1] [] (mj_hw w c q.2.2 hl)) (fun k q => q.1 < 2 ^ n ∧ wim T q.1 = wo_S (wr_ix C R T) k ∧ q.2.2 194 1 = nI (R 0) ∧ (∀ u, u ≤ 2 ^ n - 1 → q.2.2 201 u = nI (R (wim T u))) ∧ (∀ j, j < k → q.2.2 195 j = wz_io (wr_ix C R T (wo_S (wr_ix C R T) j))) ∧ ∀ x k, x ≠ 195 → x ≠ 197 → x ≠ 201 → ¬ (x = 194 ∧ k = 1) → q.2.2 x k = g1 x k) n (fun k q hk hI => ?_) (0, .float 0, mj_u g3 194 1 (nI (R 0))) ⟨hpos, wim_0 T, show mj_u g3 194 1 (nI (R 0)) 194 1 = nI (R 0) from mj_u_eq, fun u hu => by show mj_u g3 194 1 (nI (R 0)) 201 u = _; rw [mj_u_pt (by omega)]; exact a2 u (by omega) hu, fun j hj => absurd hj (by omega), fun x k h1 h2 h3 h4 => by show mj_u g3 194 1 (nI (R 0)) x k = _; rw [mj_u_pt (by omega)]; exact a3 x k h2 h3⟩
    · obtain ⟨⟨s', u6, g4⟩, e2, b0, b1, b2, b3, b4, b5⟩ := key2
      simp only at b0 b1 b2 b3 b4 b5
      have h40 : g4 194 0 = nI n := by rw [b5 _ _ (by omega) (by omega) (by omega) (by omega), hn]; exact q0
      refine ⟨g4, ?_, by rw [h40, hn], b2, fun k hk => b4 k (by rw [hn]; exact hk), fun x k hx => by rw [b5 _ _ (by omega) (by omega) (by omega) (by omega)]; exact q3 _ _ (by omega) (by omega) (by omega) (by omega)⟩
      have e5 : ((1 : Int32) <<< (nI n &&& 31)) - 1 = nI (2 ^ n - 1) := by rw [bx_one n (by omega), mj_nIp (by omega)]
      have g10 : g1 194 0 = nI n := by rw [hn]; exact q0
      have e1' : mj_den mj_P E (d + 3) 34 27 [.ref 194, .ref 34, .int (nI t), .int (nI (2 ^ n - 1)), .int (nI (2 ^ n - 1) - 1), .float 0, .float 0] [] (mj_hw w c (mj_u g1 201 (2 ^ n - 1) 0) hl) = mj_den mj_P E (d + 3) 34 27 [.ref 194, .ref 34, .int (nI t), .int (nI (2 ^ n - 1)), .int (nI (2 ^ n - 1 - (2 ^ n - 1)) - 1), u5, .float 0] [] (mj_hw w c g3 hl) := e1
      have e2' : mj_den mj_P E (d + 3) 34 106 [.ref 194, .ref 34, .int (nI t), .int (nI (2 ^ n - 1)), .int 0, .int 0, .float 0] [] (mj_hw w c (mj_u g3 194 1 (nI (R 0))) hl) = mj_den mj_P E (d + 3) 34 106 [.ref 194, .ref 34, .int (nI t), .int (nI (2 ^ n - 1)), .int (nI s'), .int (nI n), u6] [] (mj_hw w c g4 hl) := e2
      have g30 : g3 201 0 = nI (R 0) := by rw [a2 0 (by omega) (by omega), wim_0]
      rw [xg34, g34_0, eg, mj_bi_some, g34_5, g10, e5, if_pos (by rw [mj_nI0 (by omega), mj_nIc (by omega)]; exact ⟨trivial, by omega⟩), mj_nIc (by omega), e1', show 2 ^ n - 1 - (2 ^ n - 1) = 0 by omega, g34_27, if_pos (by decide), g34_90, if_pos (by decide), vi_c0, g30, e2', g34_106, h40, if_pos (Int32.le_refl _), g34_166]
    · obtain ⟨s, u6, g4⟩ := q
      obtain ⟨b0, b1, b2, b3, b4, b5⟩ := hI
      simp only at b0 b1 b2 b3 b4 b5
      obtain ⟨g2, e36, f2, o, e37, ho, hok⟩ := hstep s g4 b0 b5 (fun k hk hc => b3 _ (by have : s ||| 2 ^ k < 2 ^ n := Nat.or_lt_two_pow b0 (Nat.pow_lt_pow_right (by omega) hk); omega))
      obtain ⟨i, hix⟩ := (wo_S_ok hT (wr_ok0 (C := C) (R := R) (T := T)).1 (wr_ok0 (C := C) (R := R) (T := T)).2 k (by omega)).2.2.2 (by omega)
      rw [b1, hix] at ho
      cases o with
      | none => cases ho
      | some kk =>
        obtain ⟨k1, k2, k3, k4⟩ := hok kk rfl
        have hik : i = wm T kk := by injection ho
        have hkk : kk < mj_pc 10 T := by rw [← hn]; exact k1
        obtain ⟨w1, w2, w3⟩ := wm_ok hkk
        have hmem : g2 196 kk = nI i := by
          rw [f2 _ _ (by omega), b5 _ _ (by omega) (by omega) (by omega) (by omega), hik]
          have := q1 (wm T kk) w1 w2
          rw [w3] at this; exact this
        have h40 : g4 194 0 = nI n := by rw [b5 _ _ (by omega) (by omega) (by omega) (by omega), hn]; exact q0
        have nk : ¬ n ≤ k := by omega
        refine ⟨(s ||| 2 ^ kk, .int (nI kk), mj_u g2 195 k (nI i)), ?_, k3, ?_, ?_, fun u hu => ?_, fun j hj => ?_, fun x k' h1 h2 h3 h4 => ?_⟩
        · show mj_den mj_P E (d + 3) 34 106 [.ref 194, .ref 34, .int (nI t), .int (nI (2 ^ n - 1)), .int (nI s), .int (nI k), u6] [] (mj_hw w c g4 hl) = mj_den mj_P E (d + 3) 34 106 [.ref 194, .ref 34, .int (nI t), .int (nI (2 ^ n - 1)), .int (nI (s ||| 2 ^ kk)), .int (nI (k + 1)), .int (nI kk)] [] (mj_hw w c (mj_u g2 195 k (nI i)) hl)
          rw [g34_106, h40]
          simp (disch := omega) only [↓reduceIte, Bool.false_eq_true, eq_self, mj_10, mj_01, mj_n10, mj_0n1, mj_1n1, mj_n11, mj_bi_some, mj_bv_some, mj_bj_some, mj_br_some, mj_r0, mj_r1, mj_q0, mj_q1, mj_b01, mj_q2, if_true, if_false, mj_it, mj_if, true_and, and_true, false_and, and_false, not_true_eq_false, not_false_eq_true, true_or, or_true, false_or, or_false, mj_nIle, mj_nIlt, mj_nIeq, mj_nI0, mj_nIc, mj_nIadd, mj_nIs, mj_ez, mj_ze, mj_eo, mj_ltz, mj_lez, mj_zlt, mj_olt, mj_lto, mj_leo, mj_ole, mj_nIn, mj_nnI, nl_2, nl_3, nl_4, nl_5, nl_6, nl_7, nl_8, nl_9, nl_10, nl_11, nl_12, nl_13, nl_14, nl_15, nl_16, nl_17, nl_18, nl_19, nl_20, nl_21, nl_22, nl_23, nl_24, nl_25, nl_26, nl_27, nl_28, nl_29, nl_30, nl_32, nl_33, nl_34, nl_35, nl_36, nl_37, nl_38, nl_39, nl_40, nl_41, nl_42, nl_43, nl_44, nl_45, nl_46, nl_47, nl_48, nl_49, nl_50, nl_51, nl_52, nl_53, nl_54, nl_55, nl_56, nl_57, nl_58, nl_59, nl_60, nl_61, nl_62, nl_64, nl_65, nl_66, nl_67, nl_68, nl_69, nl_92, nl_97, nl_99, nl_100, nl_122, nl_127, nl_128, nl_131, nl_132, nl_150, nl_200, nl_255, nl_256, nl_300, nl_342, nl_380, nl_381, nl_400, nl_401, nl_420, nl_500, nl_600, nl_800, nl_999, nl_1000, nl_1023, nl_1024, nl_1200, nl_2048, nl_2100, nl_4096, nl_9999, nl_10000, nl_10240, nl_999999, nl_1000000, if_pos, if_neg, nk, e36, g34_122, e37, wz_io, g34_128, g34_137, bx_one, bx_or, hmem]
        · show wim T (s ||| 2 ^ kk) = _
          rw [wim_or hkk, b1, wo_S_s hix, hik]
        · show mj_u g2 195 k (nI i) 194 1 = _
          rw [mj_u_pt (by omega), f2 _ _ (by omega)]; exact b2
        · show mj_u g2 195 k (nI i) 201 u = _
          rw [mj_u_pt (by omega), f2 _ _ (by omega)]; exact b3 u hu
        · show mj_u g2 195 k (nI i) 195 j = _
          by_cases hjk : j = k
          · subst hjk; rw [mj_u_eq, hix]; rfl
          · rw [mj_u_pt (by omega), f2 _ _ (by omega)]; exact b4 j (by omega)
        · show mj_u g2 195 k (nI i) x k' = _
          rw [mj_u_pt (by omega), f2 _ _ (by omega)]; exact b5 x k' h1 h2 h3 h4
  · obtain ⟨u5, g3⟩ := q
    obtain ⟨a2, a3⟩ := hI
    simp only at a2 a3
    have ev : nI (2 ^ n - 1 - j) - 1 = nI (2 ^ n - 1 - j - 1) := mj_nIp (by omega)
    have ev2 : nI (2 ^ n - 1 - j - 1) + -1 = nI (2 ^ n - 1 - (j + 1)) - 1 := by
      rw [show 2 ^ n - 1 - (j + 1) = 2 ^ n - 1 - j - 1 by omega]; exact (Int32.sub_eq_add_neg _ _).symm
    have hs : 2 ^ n - 1 - j - 1 < 2 ^ n := by omega
    obtain ⟨g2, e36, f2, o, e37, ho, hok⟩ := hstep (2 ^ n - 1 - j - 1) g3 hs (fun x k h1 h2 h3 h4 => a3 x k h2 h3) (fun k hk hc => by
      have h1 : (2 ^ n - 1 - j - 1) ||| 2 ^ k < 2 ^ n := Nat.or_lt_two_pow hs (Nat.pow_lt_pow_right (by omega) hk)
      have h2 := wz_or_gt hc
      exact a2 _ (by omega) (by omega))
    have hst : ∃ u5', mj_den mj_P E (d + 3) 34 27 [.ref 194, .ref 34, .int (nI t), .int (nI (2 ^ n - 1)), .int (nI (2 ^ n - 1 - j) - 1), u5, .float 0] [] (mj_hw w c g3 hl) = mj_den mj_P E (d + 3) 34 27 [.ref 194, .ref 34, .int (nI t), .int (nI (2 ^ n - 1)), .int (nI (2 ^ n - 1 - (j + 1)) - 1), .int u5', .float 0] [] (mj_hw w c (mj_u g2 201 (2 ^ n - 1 - j - 1) (nI (R (wim T (2 ^ n - 1 - j - 1))))) hl) := by
      rw [ev, g34_27]
      cases o with
      | none =>
        have hwl := wim_lt T (2 ^ n - 1 - j - 1)
        have hz : R (wim T (2 ^ n - 1 - j - 1)) = 0 := by
          rw [hR _ (by omega)]; unfold wr_F; rw [ho]; rfl
        refine ⟨-1, ?_⟩
        simp (disch := omega) only [↓reduceIte, Bool.false_eq_true, eq_self, mj_10, mj_01, mj_n10, mj_0n1, mj_1n1, mj_n11, mj_bi_some, mj_bv_some, mj_bj_some, mj_br_some, mj_r0, mj_r1, mj_q0, mj_q1, mj_b01, mj_q2, if_true, if_false, mj_it, mj_if, true_and, and_true, false_and, and_false, not_true_eq_false, not_false_eq_true, true_or, or_true, false_or, or_false, mj_nIle, mj_nIlt, mj_nIeq, mj_nI0, mj_nIc, mj_nIadd, mj_nIs, mj_ez, mj_ze, mj_eo, mj_ltz, mj_lez, mj_zlt, mj_olt, mj_lto, mj_leo, mj_ole, mj_nIn, mj_nnI, nl_2, nl_3, nl_4, nl_5, nl_6, nl_7, nl_8, nl_9, nl_10, nl_11, nl_12, nl_13, nl_14, nl_15, nl_16, nl_17, nl_18, nl_19, nl_20, nl_21, nl_22, nl_23, nl_24, nl_25, nl_26, nl_27, nl_28, nl_29, nl_30, nl_32, nl_33, nl_34, nl_35, nl_36, nl_37, nl_38, nl_39, nl_40, nl_41, nl_42, nl_43, nl_44, nl_45, nl_46, nl_47, nl_48, nl_49, nl_50, nl_51, nl_52, nl_53, nl_54, nl_55, nl_56, nl_57, nl_58, nl_59, nl_60, nl_61, nl_62, nl_64, nl_65, nl_66, nl_67, nl_68, nl_69, nl_92, nl_97, nl_99, nl_100, nl_122, nl_127, nl_128, nl_131, nl_132, nl_150, nl_200, nl_255, nl_256, nl_300, nl_342, nl_380, nl_381, nl_400, nl_401, nl_420, nl_500, nl_600, nl_800, nl_999, nl_1000, nl_1023, nl_1024, nl_1200, nl_2048, nl_2100, nl_4096, nl_9999, nl_10000, nl_10240, nl_999999, nl_1000000, if_pos, if_neg, e36, g34_39, e37, wz_io, g34_45, g34_83, ev2, hz]
        rfl
      | some kk =>
        obtain ⟨k1, k2, k3, k4⟩ := hok kk rfl
        refine ⟨nI kk, ?_⟩
        simp (disch := omega) only [↓reduceIte, Bool.false_eq_true, eq_self, mj_10, mj_01, mj_n10, mj_0n1, mj_1n1, mj_n11, mj_bi_some, mj_bv_some, mj_bj_some, mj_br_some, mj_r0, mj_r1, mj_q0, mj_q1, mj_b01, mj_q2, if_true, if_false, mj_it, mj_if, true_and, and_true, false_and, and_false, not_true_eq_false, not_false_eq_true, true_or, or_true, false_or, or_false, mj_nIle, mj_nIlt, mj_nIeq, mj_nI0, mj_nIc, mj_nIadd, mj_nIs, mj_ez, mj_ze, mj_eo, mj_ltz, mj_lez, mj_zlt, mj_olt, mj_lto, mj_leo, mj_ole, mj_nIn, mj_nnI, nl_2, nl_3, nl_4, nl_5, nl_6, nl_7, nl_8, nl_9, nl_10, nl_11, nl_12, nl_13, nl_14, nl_15, nl_16, nl_17, nl_18, nl_19, nl_20, nl_21, nl_22, nl_23, nl_24, nl_25, nl_26, nl_27, nl_28, nl_29, nl_30, nl_32, nl_33, nl_34, nl_35, nl_36, nl_37, nl_38, nl_39, nl_40, nl_41, nl_42, nl_43, nl_44, nl_45, nl_46, nl_47, nl_48, nl_49, nl_50, nl_51, nl_52, nl_53, nl_54, nl_55, nl_56, nl_57, nl_58, nl_59, nl_60, nl_61, nl_62, nl_64, nl_65, nl_66, nl_67, nl_68, nl_69, nl_92, nl_97, nl_99, nl_100, nl_122, nl_127, nl_128, nl_131, nl_132, nl_150, nl_200, nl_255, nl_256, nl_300, nl_342, nl_380, nl_381, nl_400, nl_401, nl_420, nl_500, nl_600, nl_800, nl_999, nl_1000, nl_1023, nl_1024, nl_1200, nl_2048, nl_2100, nl_4096, nl_9999, nl_10000, nl_10240, nl_999999, nl_1000000, if_pos, if_neg, e36, g34_39, e37, wz_io, g34_45, g34_63, g34_83, ev2, bx_one, bx_or, k4]
    obtain ⟨u5', est⟩ := hst
    refine ⟨(.int u5', mj_u g2 201 (2 ^ n - 1 - j - 1) (nI (R (wim T (2 ^ n - 1 - j - 1))))), est, fun u h1 h2 => ?_, fun x k h1 h2 => ?_⟩
    · show mj_u g2 201 _ _ 201 u = _
      by_cases hu : u = 2 ^ n - 1 - j - 1
      · rw [hu, mj_u_eq]
      · rw [mj_u_pt (by omega), f2 _ _ (by omega)]; exact a2 u (by omega) h2
    · show mj_u g2 201 _ _ x k = _
      rw [mj_u_pt (by omega), f2 _ _ (by omega)]; exact a3 x k h1 h2
end MJ89y
