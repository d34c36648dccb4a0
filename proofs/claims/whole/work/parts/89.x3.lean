section MJ89x4
variable {E : mj_E} {d w c : Nat} {hi : mj_HI} {hl : Nat → Nat → Int64}
theorem s_seat {T p : Nat} {f t : Nat → Nat} {Q : Nat → Nat} (hT : T < 1024) (hm : mj_pc 10 T ≤ 8) (hp : p ≤ 16) (h0 : hi 26 0 = nI p) (hf : ∀ i, i < p → hi 28 i = nI (f i) ∧ hi 29 i = nI (t i) ∧ f i < 10 ∧ t i < 10) (hQ : ∀ s last, s ≤ 1023 → last ≤ 10 → Q (11 * s + last) = sa_F (sa_P f t p) T Q s last) : ∃ g : mj_HI, mj_dc mj_P E (d + 4) 30 [.ref 194, .int (nI T), .ref 26] (mj_hw w c hi hl) = some (none, mj_hw w c g hl) ∧ g 194 0 = nI (mj_pc 10 T) ∧ g 194 1 = nI (Q 10) ∧ (∀ k, k < mj_pc 10 T → g 195 k = wz_io (sa_ix (sa_P f t p) Q T (sa_W (sa_P f t p) Q T k).1 (sa_W (sa_P f t p) Q T k).2)) ∧ ∀ a k, ¬ (194 ≤ a ∧ a ≤ 201) → g a k = hi a k := by
  obtain ⟨g1, eg, q0, q1, q2⟩ := s_gather (E := E) (d := d + 1) (w := w) (c := c) (hi := hi) (hl := hl) hT
  obtain ⟨g2, e31, r1, r2⟩ := s_learnSeats (E := E) (d := d) (w := w) (c := c) (hi := mj_u (mj_u g1 194 0 (nI (mj_pc 10 T))) 194 1 0) (hl := hl) (f := f) (t := t) hT hm hp (by rw [mj_u_pt (by omega), mj_u_pt (by omega), q2 _ _ (by omega) (by omega)]; exact h0) (fun i hi' => by rw [mj_u_pt (by omega), mj_u_pt (by omega), mj_u_pt (by omega), mj_u_pt (by omega), q2 _ _ (by omega) (by omega), q2 _ _ (by omega) (by omega)]; exact hf i hi')
  have hPb := sa_P_bd f t p
  have hQb := sa_bd hPb hQ
  have hQT := sa_T hT hQ
  have g20 : g2 194 0 = nI (mj_pc 10 T) := by rw [r2 _ _ (by omega), mj_u_pt (by omega), mj_u_eq]
  have g21 : g2 194 1 = 0 := by rw [r2 _ _ (by omega), mj_u_eq]
  have gmem : ∀ e, e < 10 → T.testBit e = true → g2 196 (mj_pc e T) = nI e := fun e he hb => by rw [r2 _ _ (by omega), mj_u_pt (by omega), mj_u_pt (by omega)]; exact q1 e he hb
  have gfr : ∀ a k, ¬ (194 ≤ a ∧ a ≤ 201) → g2 a k = hi a k := fun a k ha => by rw [r2 _ _ (by omega), mj_u_pt (by omega), mj_u_pt (by omega), q2 _ _ (by omega) (by omega)]
  have hWok := sa_W_ok (P := sa_P f t p) (Q := Q) hT
  obtain ⟨P, hPe⟩ : ∃ P, P = sa_P f t p := ⟨_, rfl⟩
  rw [← hPe] at r1 hPb hQ hWok ⊢
  obtain ⟨n, hn⟩ : ∃ n, n = mj_pc 10 T := ⟨_, rfl⟩
  have hm' : mj_pc 10 T ≤ 8 := hm
  have h256 : 2 ^ n ≤ 256 := Nat.pow_le_pow_right (n := 2) (by omega) (by omega : n ≤ 8)
  have hpos : 1 ≤ 2 ^ n := Nat.two_pow_pos n
  have hsl : ∀ s k, s < 2 ^ n → k < n → s ||| 2 ^ k < 2 ^ n := fun s k h1 h2 => Nat.or_lt_two_pow h1 (Nat.pow_lt_pow_right (by omega) h2)
  have hgb : ∀ s o k, k < n → sa_g P Q (wim T s) (sa_l T o) (wm T k) ≤ 30000 := fun s o k hk => by
    have hk' : k < mj_pc 10 T := by omega
    have h1 := wim_lt T (s ||| 2 ^ k)
    have h2 := hQb (wim T (s ||| 2 ^ k)) (wm T k) (by omega) (by have := (wm_ok hk').1; omega)
    have h3 := sa_b_bd hPb (sa_l T o) (wm T k)
    unfold sa_g
    rw [← wim_or hk']; omega
  -- one place: what comes next, and what that costs
  have hstep : ∀ (s : Nat) (o : Option Nat) (h : mj_HI), s < 2 ^ n → (∀ j, o = some j → j < n) → (∀ a k, a ≠ 195 → a ≠ 201 → ¬ (a = 194 ∧ k = 1) → h a k = g2 a k) → (∀ k, k < n → s.testBit k = false → h 201 (8 * (s ||| 2 ^ k) + k) = nI (Q (11 * wim T (s ||| 2 ^ k) + wm T k))) → ∃ o', mj_dc mj_P E (d + 3) 33 [.ref 194, .int (nI s), .int (wz_io o)] (mj_hw w c h hl) = some (some (.int (wz_io o')), mj_hw w c h hl) ∧ sa_ix P Q T (wim T s) (sa_l T o) = o'.map (wm T) ∧ (o' = none → Q (11 * wim T s + sa_l T o) = 0) ∧ ∀ k, o' = some k → k < n ∧ s.testBit k = false ∧ s ||| 2 ^ k < 2 ^ n ∧ mj_dc mj_P E (d + 3) 32 [.ref 194, .int (nI s), .int (wz_io o), .int (nI k)] (mj_hw w c h hl) = some (some (.int (nI (Q (11 * wim T s + sa_l T o)))), mj_hw w c h hl) := by
    intro s o h hs ho hfr hb
    have ho' : ∀ j, o = some j → j < mj_pc 10 T := fun j hj => by rw [← hn]; exact ho j hj
    have hPh : ∀ x y, x < mj_pc 10 T → y < mj_pc 10 T → h 198 (8 * x + y) = nI (P (wm T x) (wm T y)) := fun x y hx hy => by rw [hfr _ _ (by omega) (by omega) (by omega)]; exact r1 x y hx hy
    have hs' : s < 2 ^ mj_pc 10 T := by rw [← hn]; exact hs
    have hB := s_bestSeat (E := E) (d := d + 1) (w := w) (c := c) (hi := h) (hl := hl) (T := T) (s := s) (o := o) (P := P) (Q := Q) hm hs' ho' (by rw [hfr _ _ (by omega) (by omega) (by omega)]; exact g20) hPh (fun k hk hc => ⟨hb k (by omega) hc, hgb s o k (by omega)⟩)
    have htr : sa_ix P Q T (wim T s) (sa_l T o) = (wz_ix (fun k => sa_g P Q (wim T s) (sa_l T o) (wm T k)) s (mj_pc 10 T)).map (wm T) := wz_tr (fun k _ _ => rfl)
    have hlo : sa_l T o ≤ 10 := by
      cases o with
      | none => exact Nat.le_refl _
      | some j => have := (wm_ok (ho' j rfl)).1; show wm T j ≤ 10; omega
    have hwl := wim_lt T s
    have hQs := hQ (wim T s) (sa_l T o) (by omega) hlo
    unfold sa_F at hQs
    refine ⟨_, hB, htr, fun hnone => ?_, fun k hk => ?_⟩
    · rw [hQs, htr, hnone]; rfl
    · obtain ⟨k1, k2, _, _⟩ := (wz_ix_ok _ _ _).2 k hk
      refine ⟨by omega, k2, hsl s k hs (by omega), ?_⟩
      have := s_costB (E := E) (d := d + 2) (w := w) (c := c) (hi := h) (hl := hl) (T := T) (s := s) (k := k) (o := o) (P := P) (Q := Q) hm hs' k1 ho' hPh (hb k (by omega) k2)
      rw [hQs, htr, hk]
      exact this
  have key1 := lp_ex (fun j (q : Value × Value × mj_HI) => mj_den mj_P E (d + 3) 30 41 [.ref 194, .int (nI T), .ref 26, .int (nI (2 ^ n - 1)), .int (nI (2 ^ n - 1 - j)), q.1, q.2.1, .float 0] [] (mj_hw w c q.2.2 hl)) (fun j q => (∀ s l, 2 ^ n - 1 - j < s → s ≤ 2 ^ n - 1 → l < n → s.testBit l = true → q.2.2 201 (8 * s + l) = nI (Q (11 * wim T s + wm T l))) ∧ ∀ a k, a ≠ 201 → q.2.2 a k = g2 a k) (2 ^ n - 1) (fun j q hj hI => ?_) (.float 0, .float 0, g2) ⟨fun s l h1 h2 => absurd h1 (by omega), fun _ _ _ => rfl⟩
  · obtain ⟨⟨u5, u6, g3⟩, e1, a2, a3⟩ := key1
    simp only at a2 a3
    have key2 := lp_ex (fun k (q : Nat × Option Nat × Value × mj_HI) => mj_den mj_P E (d + 3) 30 132 [.ref 194, .int (nI T), .ref 26, .int (nI (2 ^ n - 1)), .int (nI q.1), .int (wz_io q.2.1), .int (nI k), q.2.2.1] [] (mj_hw w c q.2.2.2 hl)) (fun k q => q.1 < 2 ^ n ∧ (∀ j, q.2.1 = some j → j < n) ∧ wim T q.1 = (sa_W P Q T k).1 ∧ sa_l T q.2.1 = (sa_W P Q T k).2 ∧ q.2.2.2 194 1 = nI (if k = 0 then 0 else Q 10) ∧ (∀ s l, 0 < s → s ≤ 2 ^ n - 1 → l < n → s.testBit l = true → q.2.2.2 201 (8 * s + l) = nI (Q (11 * wim T s + wm T l))) ∧ (∀ j, j < k → q.2.2.2 195 j = wz_io (sa_ix P Q T (sa_W P Q T j).1 (sa_W P Q T j).2)) ∧ ∀ a k, a ≠ 195 → a ≠ 201 → ¬ (a = 194 ∧ k = 1) → q.2.2.2 a k = g2 a k) n (fun k q hk hI => ?_) (0, none, .float 0, g3) ⟨hpos, fun j hj => (by cases hj), wim_0 T, rfl, (by show g3 194 1 = nI (if 0 = 0 then 0 else Q 10); rw [a3 _ _ (by omega), g21, if_pos rfl]; rfl), fun s l h1 h2 h3 h4 => a2 s l (by omega) h2 h3 h4, fun j hj => absurd hj (by omega), fun a k h1 h2 h3 => a3 a k h2⟩
    · obtain ⟨⟨s', o', u7, g4⟩, e2, _, _, _, _, b2, b3, b4, b5⟩ := key2
      simp only at b2 b3 b4 b5
      have h40 : g4 194 0 = nI n := by rw [b5 _ _ (by omega) (by omega) (by omega), hn]; exact g20
      have htot : g4 194 1 = nI (Q 10) := by
        rw [b2]
        by_cases hz : n = 0
        · rw [if_pos hz]
          have hTz : T = 0 := by rw [← wim_full hT, ← hn, hz]; exact wim_0 T
          have := hQT 10 (by omega)
          rw [hTz] at this
          have : Q 10 = 0 := this
          rw [this]
        · rw [if_neg hz]
      refine ⟨g4, ?_, by rw [h40, hn], htot, fun k hk => b4 k (by omega), fun a k ha => by rw [b5 _ _ (by omega) (by omega) (by omega)]; exact gfr a k ha⟩
      have e5 : ((1 : Int32) <<< (nI n &&& 31)) - 1 = nI (2 ^ n - 1) := by rw [bx_one n (by omega), mj_nIp (by omega)]
      have e1' : mj_den mj_P E (d + 3) 30 41 [.ref 194, .int (nI T), .ref 26, .int (nI (2 ^ n - 1)), .int (nI (2 ^ n - 1)), .float 0, .float 0, .float 0] [] (mj_hw w c g2 hl) = mj_den mj_P E (d + 3) 30 41 [.ref 194, .int (nI T), .ref 26, .int (nI (2 ^ n - 1)), .int (nI (2 ^ n - 1 - (2 ^ n - 1))), u5, u6, .float 0] [] (mj_hw w c g3 hl) := e1
      have e2' : mj_den mj_P E (d + 3) 30 132 [.ref 194, .int (nI T), .ref 26, .int (nI (2 ^ n - 1)), .int 0, .int (-1), .int 0, .float 0] [] (mj_hw w c g3 hl) = mj_den mj_P E (d + 3) 30 132 [.ref 194, .int (nI T), .ref 26, .int (nI (2 ^ n - 1)), .int (nI s'), .int (wz_io o'), .int (nI n), u7] [] (mj_hw w c g4 hl) := e2
      have n8 : ¬ nI 8 < nI (mj_pc 10 T) := by rw [mj_nIlt (by omega) (by omega)]; omega
      rw [xg30, g30_0, eg, mj_bv_some, g30_5, q0, nl_8, s_min2, if_neg n8, mj_bi_some, g30_15, e31, mj_bv_some, g30_29, g20, ← hn, e5, e1', show 2 ^ n - 1 - (2 ^ n - 1) = 0 by omega, g30_41, if_pos (by decide), g30_123, e2', g30_132, h40, if_pos (Int32.le_refl _), g30_210]
    · obtain ⟨s, o, u7, g4⟩ := q
      obtain ⟨b0, bo, b1, bl, b2, b3, b4, b5⟩ := hI
      simp only at b0 bo b1 bl b2 b3 b4 b5
      obtain ⟨o', e33, hix', _, hok⟩ := hstep s o g4 b0 bo b5 (fun k hk hc => by
        have h1 := hsl s k b0 hk
        have h2 := wz_or_gt hc
        exact b3 _ _ (by omega) (by omega) hk (by rw [wz_or_bit, decide_eq_true rfl, Bool.or_true]))
      obtain ⟨i, hix⟩ := (hWok k (by omega)).2.2.2 (by omega)
      rw [b1, bl, hix] at hix'
      cases o' with
      | none => cases hix'
      | some kk =>
        obtain ⟨k1, k2, k3, k4⟩ := hok kk rfl
        have hik : i = wm T kk := by injection hix'
        have hkk : kk < mj_pc 10 T := by omega
        obtain ⟨w1, w2, w3⟩ := wm_ok hkk
        have hmem : g4 196 kk = nI i := by
          rw [b5 _ _ (by omega) (by omega) (by omega), hik]
          have := gmem (wm T kk) w1 w2
          rw [w3] at this; exact this
        have h40 : g4 194 0 = nI n := by rw [b5 _ _ (by omega) (by omega) (by omega), hn]; exact g20
        have nk : ¬ n ≤ k := by omega
        have hWs := sa_W_s hix
        have e33' : mj_dc mj_P E (d + 3) 33 [.ref 194, .int (nI s), .int (wz_io o)] (mj_hw w c g4 hl) = some (some (.int (nI kk)), mj_hw w c g4 hl) := e33
        by_cases hk0 : k = 0
        · subst hk0
          have hQ0 : Q (11 * wim T s + sa_l T o) = Q 10 := by rw [b1, bl]; rfl
          rw [hQ0] at k4
          refine ⟨(s ||| 2 ^ kk, some kk, .int (nI kk), mj_u (mj_u g4 194 1 (nI (Q 10))) 195 0 (nI i)), ?_, k3, fun j hj => (by cases hj; exact k1), ?_, ?_, ?_, fun s' l' h1 h2 h3 h4 => ?_, fun j hj => ?_, fun a k' h1 h2 h3 => ?_⟩
          · show mj_den mj_P E (d + 3) 30 132 [.ref 194, .int (nI T), .ref 26, .int (nI (2 ^ n - 1)), .int (nI s), .int (wz_io o), .int (nI 0), u7] [] (mj_hw w c g4 hl) = mj_den mj_P E (d + 3) 30 132 [.ref 194, .int (nI T), .ref 26, .int (nI (2 ^ n - 1)), .int (nI (s ||| 2 ^ kk)), .int (nI kk), .int (nI (0 + 1)), .int (nI kk)] [] (mj_hw w c (mj_u (mj_u g4 194 1 (nI (Q 10))) 195 0 (nI i)) hl)
            have z0 : (nI 0 = (0 : Int32)) = True := eq_true rfl
            have hmem2 : (mj_u g4 194 1 (nI (Q 10))) 196 kk = nI i := by rw [mj_u_pt (by omega)]; exact hmem
            rw [g30_132, h40]
            simp (disch := omega) only [↓reduceIte, Bool.false_eq_true, eq_self, mj_10, mj_01, mj_n10, mj_0n1, mj_1n1, mj_n11, mj_bi_some, mj_bv_some, mj_bj_some, mj_br_some, mj_r0, mj_r1, mj_q0, mj_q1, mj_b01, mj_q2, if_true, if_false, mj_it, mj_if, true_and, and_true, false_and, and_false, not_true_eq_false, not_false_eq_true, true_or, or_true, false_or, or_false, mj_nIle, mj_nIlt, mj_nIeq, mj_nI0, mj_nIc, mj_nIadd, mj_nIs, mj_ez, mj_ze, mj_eo, mj_ltz, mj_lez, mj_zlt, mj_olt, mj_lto, mj_leo, mj_ole, mj_nIn, mj_nnI, nl_2, nl_3, nl_4, nl_5, nl_6, nl_7, nl_8, nl_9, nl_10, nl_11, nl_12, nl_13, nl_14, nl_15, nl_16, nl_17, nl_18, nl_19, nl_20, nl_21, nl_22, nl_23, nl_24, nl_25, nl_26, nl_27, nl_28, nl_29, nl_30, nl_32, nl_33, nl_34, nl_35, nl_36, nl_37, nl_38, nl_39, nl_40, nl_41, nl_42, nl_43, nl_44, nl_45, nl_46, nl_47, nl_48, nl_49, nl_50, nl_51, nl_52, nl_53, nl_54, nl_55, nl_56, nl_57, nl_58, nl_59, nl_60, nl_61, nl_62, nl_64, nl_65, nl_66, nl_67, nl_68, nl_69, nl_92, nl_97, nl_99, nl_100, nl_122, nl_127, nl_128, nl_131, nl_132, nl_150, nl_200, nl_255, nl_256, nl_300, nl_342, nl_380, nl_381, nl_400, nl_401, nl_420, nl_500, nl_600, nl_800, nl_999, nl_1000, nl_1023, nl_1024, nl_1200, nl_2048, nl_2100, nl_4096, nl_9999, nl_10000, nl_10240, nl_999999, nl_1000000, if_pos, if_neg, nk, e33', g30_149, g30_158, k4, g30_174, g30_177, bx_one, bx_or, hmem2, z0]
          · show wim T (s ||| 2 ^ kk) = (sa_W P Q T (0 + 1)).1
            rw [wim_or hkk, b1, hWs, hik]
          · show wm T kk = (sa_W P Q T (0 + 1)).2
            rw [hWs, hik]
          · show mj_u (mj_u g4 194 1 (nI (Q 10))) 195 0 (nI i) 194 1 = _
            rw [mj_u_pt (by omega), mj_u_eq, if_neg (by omega)]
          · show mj_u (mj_u g4 194 1 (nI (Q 10))) 195 0 (nI i) 201 (8 * s' + l') = _
            rw [mj_u_pt (by omega), mj_u_pt (by omega)]; exact b3 s' l' h1 h2 h3 h4
          · show mj_u (mj_u g4 194 1 (nI (Q 10))) 195 0 (nI i) 195 j = _
            have hj0 : j = 0 := by omega
            subst hj0; rw [mj_u_eq, hix]; rfl
          · show mj_u (mj_u g4 194 1 (nI (Q 10))) 195 0 (nI i) a k' = _
            rw [mj_u_pt (by omega), mj_u_pt (by omega)]; exact b5 a k' h1 h2 h3
        · refine ⟨(s ||| 2 ^ kk, some kk, .int (nI kk), mj_u g4 195 k (nI i)), ?_, k3, fun j hj => (by cases hj; exact k1), ?_, ?_, ?_, fun s' l' h1 h2 h3 h4 => ?_, fun j hj => ?_, fun a k' h1 h2 h3 => ?_⟩
          · show mj_den mj_P E (d + 3) 30 132 [.ref 194, .int (nI T), .ref 26, .int (nI (2 ^ n - 1)), .int (nI s), .int (wz_io o), .int (nI k), u7] [] (mj_hw w c g4 hl) = mj_den mj_P E (d + 3) 30 132 [.ref 194, .int (nI T), .ref 26, .int (nI (2 ^ n - 1)), .int (nI (s ||| 2 ^ kk)), .int (nI kk), .int (nI (k + 1)), .int (nI kk)] [] (mj_hw w c (mj_u g4 195 k (nI i)) hl)
            rw [g30_132, h40]
            simp (disch := omega) only [↓reduceIte, Bool.false_eq_true, eq_self, mj_10, mj_01, mj_n10, mj_0n1, mj_1n1, mj_n11, mj_bi_some, mj_bv_some, mj_bj_some, mj_br_some, mj_r0, mj_r1, mj_q0, mj_q1, mj_b01, mj_q2, if_true, if_false, mj_it, mj_if, true_and, and_true, false_and, and_false, not_true_eq_false, not_false_eq_true, true_or, or_true, false_or, or_false, mj_nIle, mj_nIlt, mj_nIeq, mj_nI0, mj_nIc, mj_nIadd, mj_nIs, mj_ez, mj_ze, mj_eo, mj_ltz, mj_lez, mj_zlt, mj_olt, mj_lto, mj_leo, mj_ole, mj_nIn, mj_nnI, nl_2, nl_3, nl_4, nl_5, nl_6, nl_7, nl_8, nl_9, nl_10, nl_11, nl_12, nl_13, nl_14, nl_15, nl_16, nl_17, nl_18, nl_19, nl_20, nl_21, nl_22, nl_23, nl_24, nl_25, nl_26, nl_27, nl_28, nl_29, nl_30, nl_32, nl_33, nl_34, nl_35, nl_36, nl_37, nl_38, nl_39, nl_40, nl_41, nl_42, nl_43, nl_44, nl_45, nl_46, nl_47, nl_48, nl_49, nl_50, nl_51, nl_52, nl_53, nl_54, nl_55, nl_56, nl_57, nl_58, nl_59, nl_60, nl_61, nl_62, nl_64, nl_65, nl_66, nl_67, nl_68, nl_69, nl_92, nl_97, nl_99, nl_100, nl_122, nl_127, nl_128, nl_131, nl_132, nl_150, nl_200, nl_255, nl_256, nl_300, nl_342, nl_380, nl_381, nl_400, nl_401, nl_420, nl_500, nl_600, nl_800, nl_999, nl_1000, nl_1023, nl_1024, nl_1200, nl_2048, nl_2100, nl_4096, nl_9999, nl_10000, nl_10240, nl_999999, nl_1000000, if_pos, if_neg, nk, e33', g30_149, g30_158, g30_177, bx_one, bx_or, hmem, hk0]
          · show wim T (s ||| 2 ^ kk) = (sa_W P Q T (k + 1)).1
            rw [wim_or hkk, b1, hWs, hik]
          · show wm T kk = (sa_W P Q T (k + 1)).2
            rw [hWs, hik]
          · show mj_u g4 195 k (nI i) 194 1 = _
            rw [mj_u_pt (by omega), b2, if_neg hk0, if_neg (by omega)]
          · show mj_u g4 195 k (nI i) 201 (8 * s' + l') = _
            rw [mj_u_pt (by omega)]; exact b3 s' l' h1 h2 h3 h4
          · show mj_u g4 195 k (nI i) 195 j = _
            by_cases hjk : j = k
            · subst hjk; rw [mj_u_eq, hix]; rfl
            · rw [mj_u_pt (by omega)]; exact b4 j (by omega)
          · show mj_u g4 195 k (nI i) a k' = _
            rw [mj_u_pt (by omega)]; exact b5 a k' h1 h2 h3
  · obtain ⟨u5, u6, g3⟩ := q
    obtain ⟨a2, a3⟩ := hI
    simp only at a2 a3
    obtain ⟨s, hs⟩ : ∃ s, s = 2 ^ n - 1 - j := ⟨_, rfl⟩
    have hs1 : 1 ≤ s := by omega
    have hs2 : s < 2 ^ n := by omega
    have hs3 : 2 ^ n - 1 - (j + 1) = s - 1 := by omega
    have ev2 : nI s + -1 = nI (s - 1) := by rw [← mj_nIp hs1]; exact (Int32.sub_eq_add_neg _ _).symm
    rw [← hs] at a2
    have key := lp_ex (fun l (q : Value × mj_HI) => mj_den mj_P E (d + 3) 30 49 [.ref 194, .int (nI T), .ref 26, .int (nI (2 ^ n - 1)), .int (nI s), .int (nI l), q.1, .float 0] [] (mj_hw w c q.2 hl)) (fun l q => (∀ s' l', s < s' ∨ (s' = s ∧ l' < l) → s' ≤ 2 ^ n - 1 → l' < n → s'.testBit l' = true → q.2 201 (8 * s' + l') = nI (Q (11 * wim T s' + wm T l'))) ∧ ∀ a k, a ≠ 201 → q.2 a k = g2 a k) n (fun l q hln hI => ?_) (u6, g3) ⟨fun s' l' h1 h2 h3 h4 => a2 s' l' (by omega) h2 h3 h4, a3⟩
    · obtain ⟨⟨u6', g5⟩, e, c2, c3⟩ := key
      simp only at c2 c3
      have h40 : g5 194 0 = nI n := by rw [c3 _ _ (by omega), hn]; exact g20
      refine ⟨(.int (nI n), u6', g5), ?_, fun s' l' h1 h2 h3 h4 => ?_, c3⟩
      · show mj_den mj_P E (d + 3) 30 41 [.ref 194, .int (nI T), .ref 26, .int (nI (2 ^ n - 1)), .int (nI (2 ^ n - 1 - j)), u5, u6, .float 0] [] (mj_hw w c g3 hl) = mj_den mj_P E (d + 3) 30 41 [.ref 194, .int (nI T), .ref 26, .int (nI (2 ^ n - 1)), .int (nI (2 ^ n - 1 - (j + 1))), .int (nI n), u6', .float 0] [] (mj_hw w c g5 hl)
        have nle : ¬ nI s ≤ (0 : Int32) := by rw [show (0 : Int32) = nI 0 from rfl, mj_nIle (by omega) (by omega)]; omega
        have e' : mj_den mj_P E (d + 3) 30 49 [.ref 194, .int (nI T), .ref 26, .int (nI (2 ^ n - 1)), .int (nI s), .int 0, u6, .float 0] [] (mj_hw w c g3 hl) = mj_den mj_P E (d + 3) 30 49 [.ref 194, .int (nI T), .ref 26, .int (nI (2 ^ n - 1)), .int (nI s), .int (nI n), u6', .float 0] [] (mj_hw w c g5 hl) := e
        rw [← hs, hs3, g30_41, if_neg nle, e', g30_49, h40, if_pos (Int32.le_refl _), g30_117, ev2]
      · show g5 201 (8 * s' + l') = _
        exact c2 s' l' (by omega) h2 h3 h4
    · obtain ⟨u6', g5⟩ := q
      obtain ⟨c2, c3⟩ := hI
      simp only at c2 c3
      have h40 : g5 194 0 = nI n := by rw [c3 _ _ (by omega), hn]; exact g20
      have nl' : ¬ n ≤ l := by omega
      have e8 : nI s * nI 8 + nI l = nI (8 * s + l) := by rw [mj_nImul, mj_nIadd, Nat.mul_comm]
      by_cases hb : s.testBit l = true
      · obtain ⟨o', e33, _, hnone, hok⟩ := hstep s (some l) g5 hs2 (fun j hj => by cases hj; exact hln) (fun a k h1 h2 h3 => c3 a k h2) (fun k hk hc => by
          have h1 := hsl s k hs2 hk
          have h2 := wz_or_gt hc
          exact c2 _ _ (Or.inl h2) (by omega) hk (by rw [wz_or_bit, decide_eq_true rfl, Bool.or_true]))
        have e33' : mj_dc mj_P E (d + 3) 33 [.ref 194, .int (nI s), .int (nI l)] (mj_hw w c g5 hl) = some (some (.int (wz_io o')), mj_hw w c g5 hl) := e33
        have hfin : ∃ u, mj_den mj_P E (d + 3) 30 49 [.ref 194, .int (nI T), .ref 26, .int (nI (2 ^ n - 1)), .int (nI s), .int (nI l), u6', .float 0] [] (mj_hw w c g5 hl) = mj_den mj_P E (d + 3) 30 49 [.ref 194, .int (nI T), .ref 26, .int (nI (2 ^ n - 1)), .int (nI s), .int (nI (l + 1)), u, .float 0] [] (mj_hw w c (mj_u g5 201 (8 * s + l) (nI (Q (11 * wim T s + wm T l)))) hl) := by
          rw [g30_49, h40]
          cases o' with
          | none =>
            have hz : Q (11 * wim T s + wm T l) = 0 := hnone rfl
            have nz : nI 0 = (0 : Int32) := rfl
            refine ⟨.int (-1), ?_⟩
            simp (disch := omega) only [↓reduceIte, Bool.false_eq_true, eq_self, mj_10, mj_01, mj_n10, mj_0n1, mj_1n1, mj_n11, mj_bi_some, mj_bv_some, mj_bj_some, mj_br_some, mj_r0, mj_r1, mj_q0, mj_q1, mj_b01, mj_q2, if_true, if_false, mj_it, mj_if, true_and, and_true, false_and, and_false, not_true_eq_false, not_false_eq_true, true_or, or_true, false_or, or_false, mj_nIle, mj_nIlt, mj_nIeq, mj_nI0, mj_nIc, mj_nIadd, mj_nIs, mj_ez, mj_ze, mj_eo, mj_ltz, mj_lez, mj_zlt, mj_olt, mj_lto, mj_leo, mj_ole, mj_nIn, mj_nnI, nl_2, nl_3, nl_4, nl_5, nl_6, nl_7, nl_8, nl_9, nl_10, nl_11, nl_12, nl_13, nl_14, nl_15, nl_16, nl_17, nl_18, nl_19, nl_20, nl_21, nl_22, nl_23, nl_24, nl_25, nl_26, nl_27, nl_28, nl_29, nl_30, nl_32, nl_33, nl_34, nl_35, nl_36, nl_37, nl_38, nl_39, nl_40, nl_41, nl_42, nl_43, nl_44, nl_45, nl_46, nl_47, nl_48, nl_49, nl_50, nl_51, nl_52, nl_53, nl_54, nl_55, nl_56, nl_57, nl_58, nl_59, nl_60, nl_61, nl_62, nl_64, nl_65, nl_66, nl_67, nl_68, nl_69, nl_92, nl_97, nl_99, nl_100, nl_122, nl_127, nl_128, nl_131, nl_132, nl_150, nl_200, nl_255, nl_256, nl_300, nl_342, nl_380, nl_381, nl_400, nl_401, nl_420, nl_500, nl_600, nl_800, nl_999, nl_1000, nl_1023, nl_1024, nl_1200, nl_2048, nl_2100, nl_4096, nl_9999, nl_10000, nl_10240, nl_999999, nl_1000000, if_pos, if_neg, nl', s_hX, hb, g30_65, e33', wz_io, g30_76, e8, g30_110, g30_111, hz]
            rfl
          | some kk =>
            obtain ⟨k1, k2, k3, k4⟩ := hok kk rfl
            have k4' : mj_dc mj_P E (d + 3) 32 [.ref 194, .int (nI s), .int (nI l), .int (nI kk)] (mj_hw w c g5 hl) = some (some (.int (nI (Q (11 * wim T s + wm T l)))), mj_hw w c g5 hl) := k4
            refine ⟨.int (nI kk), ?_⟩
            simp (disch := omega) only [↓reduceIte, Bool.false_eq_true, eq_self, mj_10, mj_01, mj_n10, mj_0n1, mj_1n1, mj_n11, mj_bi_some, mj_bv_some, mj_bj_some, mj_br_some, mj_r0, mj_r1, mj_q0, mj_q1, mj_b01, mj_q2, if_true, if_false, mj_it, mj_if, true_and, and_true, false_and, and_false, not_true_eq_false, not_false_eq_true, true_or, or_true, false_or, or_false, mj_nIle, mj_nIlt, mj_nIeq, mj_nI0, mj_nIc, mj_nIadd, mj_nIs, mj_ez, mj_ze, mj_eo, mj_ltz, mj_lez, mj_zlt, mj_olt, mj_lto, mj_leo, mj_ole, mj_nIn, mj_nnI, nl_2, nl_3, nl_4, nl_5, nl_6, nl_7, nl_8, nl_9, nl_10, nl_11, nl_12, nl_13, nl_14, nl_15, nl_16, nl_17, nl_18, nl_19, nl_20, nl_21, nl_22, nl_23, nl_24, nl_25, nl_26, nl_27, nl_28, nl_29, nl_30, nl_32, nl_33, nl_34, nl_35, nl_36, nl_37, nl_38, nl_39, nl_40, nl_41, nl_42, nl_43, nl_44, nl_45, nl_46, nl_47, nl_48, nl_49, nl_50, nl_51, nl_52, nl_53, nl_54, nl_55, nl_56, nl_57, nl_58, nl_59, nl_60, nl_61, nl_62, nl_64, nl_65, nl_66, nl_67, nl_68, nl_69, nl_92, nl_97, nl_99, nl_100, nl_122, nl_127, nl_128, nl_131, nl_132, nl_150, nl_200, nl_255, nl_256, nl_300, nl_342, nl_380, nl_381, nl_400, nl_401, nl_420, nl_500, nl_600, nl_800, nl_999, nl_1000, nl_1023, nl_1024, nl_1200, nl_2048, nl_2100, nl_4096, nl_9999, nl_10000, nl_10240, nl_999999, nl_1000000, if_pos, if_neg, nl', s_hX, hb, g30_65, e33', wz_io, g30_76, e8, g30_100, k4', g30_110, g30_111]
        obtain ⟨u, hu⟩ := hfin
        refine ⟨(u, mj_u g5 201 (8 * s + l) (nI (Q (11 * wim T s + wm T l)))), hu, fun s' l' h1 h2 h3 h4 => ?_, fun a k ha => ?_⟩
        · show mj_u g5 201 (8 * s + l) _ 201 (8 * s' + l') = _
          by_cases hsl' : s' = s ∧ l' = l
          · obtain ⟨rfl, rfl⟩ := hsl'; rw [mj_u_eq]
          · rw [mj_u_pt (by omega)]; exact c2 s' l' (by omega) h2 h3 h4
        · show mj_u g5 201 _ _ a k = _
          rw [mj_u_pt (by omega)]; exact c3 a k ha
      · refine ⟨(u6', g5), ?_, fun s' l' h1 h2 h3 h4 => ?_, c3⟩
        · show mj_den mj_P E (d + 3) 30 49 [.ref 194, .int (nI T), .ref 26, .int (nI (2 ^ n - 1)), .int (nI s), .int (nI l), u6', .float 0] [] (mj_hw w c g5 hl) = mj_den mj_P E (d + 3) 30 49 [.ref 194, .int (nI T), .ref 26, .int (nI (2 ^ n - 1)), .int (nI s), .int (nI (l + 1)), u6', .float 0] [] (mj_hw w c g5 hl)
          rw [g30_49, h40]
          simp (disch := omega) only [↓reduceIte, Bool.false_eq_true, eq_self, mj_10, mj_01, mj_n10, mj_0n1, mj_1n1, mj_n11, mj_bi_some, mj_bv_some, mj_bj_some, mj_br_some, mj_r0, mj_r1, mj_q0, mj_q1, mj_b01, mj_q2, if_true, if_false, mj_it, mj_if, true_and, and_true, false_and, and_false, not_true_eq_false, not_false_eq_true, true_or, or_true, false_or, or_false, mj_nIle, mj_nIlt, mj_nIeq, mj_nI0, mj_nIc, mj_nIadd, mj_nIs, mj_ez, mj_ze, mj_eo, mj_ltz, mj_lez, mj_zlt, mj_olt, mj_lto, mj_leo, mj_ole, mj_nIn, mj_nnI, nl_2, nl_3, nl_4, nl_5, nl_6, nl_7, nl_8, nl_9, nl_10, nl_11, nl_12, nl_13, nl_14, nl_15, nl_16, nl_17, nl_18, nl_19, nl_20, nl_21, nl_22, nl_23, nl_24, nl_25, nl_26, nl_27, nl_28, nl_29, nl_30, nl_32, nl_33, nl_34, nl_35, nl_36, nl_37, nl_38, nl_39, nl_40, nl_41, nl_42, nl_43, nl_44, nl_45, nl_46, nl_47, nl_48, nl_49, nl_50, nl_51, nl_52, nl_53, nl_54, nl_55, nl_56, nl_57, nl_58, nl_59, nl_60, nl_61, nl_62, nl_64, nl_65, nl_66, nl_67, nl_68, nl_69, nl_92, nl_97, nl_99, nl_100, nl_122, nl_127, nl_128, nl_131, nl_132, nl_150, nl_200, nl_255, nl_256, nl_300, nl_342, nl_380, nl_381, nl_400, nl_401, nl_420, nl_500, nl_600, nl_800, nl_999, nl_1000, nl_1023, nl_1024, nl_1200, nl_2048, nl_2100, nl_4096, nl_9999, nl_10000, nl_10240, nl_999999, nl_1000000, if_pos, if_neg, nl', s_hX, hb, g30_65, g30_111]
        · show g5 201 (8 * s' + l') = _
          by_cases hsl' : s' = s ∧ l' = l
          · obtain ⟨rfl, rfl⟩ := hsl'; exact absurd h4 hb
          · exact c2 s' l' (by omega) h2 h3 h4
end MJ89x4
