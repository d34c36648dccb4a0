theorem cs_sat (a : Int32) : mj_Cs 127 245 [.int a] := by
  intro E d w c hi hl hE hw hI
  obtain ⟨n, l, q⟩ := iv_I_un.mp hI
  obtain ⟨n10, l12, mN, mL⟩ := iv_Jn q
  obtain ⟨⟨a0, a1, a2, a3, a4, a5, a6⟩, hb, x3, x4, x5, x6, x7⟩ := iv_JX q
  obtain ⟨p, f, t, p16, p0, pf, pn, pM⟩ := iv_pinX q
  have h1024 : 2 ^ n ≤ 1024 := Nat.pow_le_pow_right (n := 2) (by omega) n10
  have eA := s_adm (E := E) (d := d + 98) (w := w) (c := c) (hi := hi) (hl := hl) n10 a0
  have hst : mj_st (fun k => decide (hi 7 k = 0)) n = mj_st (fun k => decide (hi 206 (25 + k) = 0)) n := mj_st_congr n (fun k hk => by rw [(x3 k (by omega)).2.2.2.2.1])
  rw [hst] at eA
  obtain ⟨T, hTe⟩ : ∃ T, T = mj_st (fun k => decide (hi 206 (25 + k) = 0)) n := ⟨_, rfl⟩
  have hTn : T < 2 ^ n := by rw [hTe]; exact mj_st_lt _ n
  have hT : T < 1024 := by omega
  have eA2 : mj_dc mj_P E (d + 99) 76 [.ref 2] (mj_hw w c hi hl) = some (some (.int (nI T)), mj_hw w c hi hl) := by rw [hTe]; exact eA
  have hprs : ∀ h : mj_HI, h 205 6 = nI n → (∀ k, h 206 (25 + k) = hi 206 (25 + k)) → mj_dc mj_P E (d + 99) 168 [.ref 205] (mj_hw w c h hl) = some (some (.int (nI T)), mj_hw w c h hl) := fun h h1 h2 => by
    have := s_prs (E := E) (d := d + 98) (w := w) (c := c) (hi := h) (hl := hl) n10 h1
    rw [show (fun k => decide (h 206 (25 + k) = 0)) = (fun k => decide (hi 206 (25 + k) = 0)) from funext (fun k => by rw [h2]), ← hTe] at this
    exact this
  have hbc : ∀ h : mj_HI, mj_dc mj_P E (d + 99) 293 [.int (nI T)] (mj_hw w c h hl) = some (some (.int (nI (mj_pc 10 T))), mj_hw w c h hl) := fun h => by
    rw [← mj_pc1210 hT]; exact s_bc (d := d + 98) (by omega)
  have hon : ∀ h : mj_HI, mj_dc mj_P E (d + 99) 156 [.ref 205, .int (nI T)] (mj_hw w c h hl) = some (some (.int (nI (mj_pc 10 T))), mj_hw w c h hl) := fun h => by
    rw [← mj_pc1210 hT]; exact s_ones (d := d + 98) (by omega)
  have hm10 : mj_pc 10 T ≤ 10 := iv_cnt_bd _ 10
  by_cases hm : mj_pc 10 T ≤ 8
  · obtain ⟨Q, hQ⟩ := sa_Q (sa_P f t p) T
    obtain ⟨g, eg, g0, g1, g2, g3⟩ := s_seat (E := E) (d := d + 95) (w := w) (c := c) (hi := hi) (hl := hl) (f := f) (t := t) (Q := Q) hT hm p16 p0 pf hQ
    have eg2 : mj_dc mj_P E (d + 99) 30 [.ref 194, .int (nI T), .ref 26] (mj_hw w c hi hl) = some (none, mj_hw w c g hl) := eg
    have gr : ∀ a k, ¬ (194 ≤ a ∧ a ≤ 201) → ¬ (a = 205 ∧ k = 0) → (mj_u g 205 0 0) a k = hi a k := fun a k h1 h3 => by rw [mj_u_pt (by omega), g3 _ _ h1]
    have ht10 : ∀ i, i < p → t i < 10 := fun i hi' => (pf i hi').2.2.2
    obtain ⟨z, ez, z1, z2⟩ := s_findsSat (E := E) (d := d + 94) (w := w) (c := c) (hi := mj_u g 205 0 0) (hl := hl) (n := n) (p := p) (T := T) (f := f) (t := t) (Q := Q) n10 hTn (by rw [gr _ _ (by omega) (by omega)]; exact mN) ht10 (fun k hk => by rw [gr _ _ (by omega) (by omega)]; exact pM k hk) hQ
    have ez2 : mj_dc mj_P E (d + 99) 244 [.ref 205, .int (nI T)] (mj_hw w c (mj_u g 205 0 0) hl) = some (none, mj_hw w c z hl) := ez
    have zr : ∀ a k, ¬ (194 ≤ a ∧ a ≤ 201) → a ≠ 229 → ¬ (a = 205 ∧ k = 0) → z a k = hi a k := fun a k h1 h2 h3 => by rw [z2 _ _ h2, gr _ _ h1 h3]
    have zI : iv_I z z := iv_J_same q (fun a k h => zr _ _ (by omega) (by omega) (by omega)) (fun a k h => zr _ _ (by omega) (by omega) (by omega)) (fun k h => zr _ _ (by omega) (by omega) (by omega))
    have gI : iv_I (mj_u g 205 0 0) (mj_u g 205 0 0) := iv_J_same q (fun a k h => gr _ _ (by omega) (by omega)) (fun a k h => gr _ _ (by omega) (by omega)) (fun k h => gr _ _ (by omega) (by omega))
    have zM : ∀ k, k < 10 → z 225 k = nI (wv_pn f t (2 ^ k) p) := fun k hk => by rw [zr _ _ (by omega) (by omega) (by omega)]; exact pM k hk
    have epr := hprs (mj_u g 205 0 0) (by rw [gr _ _ (by omega) (by omega)]; exact mN) (fun k => gr _ _ (by omega) (by omega))
    have zq : ∀ s x, (∀ i, s.testBit i = true → T.testBit i = true) → x < 10 → (wbl T s).testBit x = false → z 229 (10 * (s ||| 2 ^ x) + x) = nI (Q (11 * (s ||| 2 ^ x) + x)) := fun s x hsub hx hc => by
      obtain ⟨c1, c2⟩ := (wbl_clear hx).mp hc
      have := wz_or_gt c1
      exact z1 _ _ (by omega) (mj_sub_or hsub c2) hx (by rw [wz_or_bit, decide_eq_true rfl, Bool.or_true])
    have eL := s_leastSat (E := E) (d := d + 95) (w := w) (c := c) (hi := z) (hl := hl) (n := n) (p := p) (T := T) (s := 0) (last := 10) (f := f) (t := t) (Q := Q) n10 hTn (by omega) (fun i hi' => by rw [Nat.zero_testBit] at hi'; cases hi') (by rw [zr _ _ (by omega) (by omega) (by omega)]; exact mN) ht10 zM hQ (fun x hx hc => zq 0 x (fun i hi' => by rw [Nat.zero_testBit] at hi'; cases hi') hx hc)
    have eL2 : mj_dc mj_P E (d + 99) 243 [.ref 205, .int 0, .int (-1), .int (nI T)] (mj_hw w c z hl) = some (some (.int (nI (Q 10))), mj_hw w c z hl) := eL
    have hWok := sa_W_ok (P := sa_P f t p) (Q := Q) hT
    have hQb := sa_bd (sa_P_bd f t p) hQ
    have n8 : ¬ nI 8 < nI (mj_pc 10 T) := by rw [mj_nIlt (by omega) (by omega)]; omega
    have l8 : nI (mj_pc 10 T) ≤ nI 8 := by rw [mj_nIle (by omega) (by omega)]; exact hm
    obtain ⟨m, hme⟩ : ∃ m, m = mj_pc 10 T := ⟨_, rfl⟩
    rw [← hme] at g0 g2 hbc hon hWok hm n8 l8
    by_cases ha0 : a = 0
    · subst ha0
      refine ⟨nI (Q 10), w, c, g, hl, z, ?_, ?_, zI, hw⟩
      · have hb1 := hbc hi
        simp (disch := omega) only [q127_0, q127_10, q127_15, q127_22, q127_37, q127_45, e127, q27_0, q27_9, q27_47, q27_48, e27, ↓reduceIte, Bool.false_eq_true, eq_self, mj_10, mj_01, mj_n10, mj_0n1, mj_1n1, mj_n11, mj_bi_some, mj_bv_some, mj_bj_some, mj_br_some, mj_r0, mj_r1, mj_q0, mj_q1, mj_b01, mj_q2, if_true, if_false, mj_it, mj_if, true_and, and_true, false_and, and_false, not_true_eq_false, not_false_eq_true, true_or, or_true, false_or, or_false, mj_nIle, mj_nIlt, mj_nIeq, mj_nI0, mj_nIc, mj_nIadd, mj_nIs, mj_ez, mj_ze, mj_eo, mj_ltz, mj_lez, mj_zlt, mj_olt, mj_lto, mj_leo, mj_ole, mj_nIn, mj_nnI, nl_2, nl_3, nl_4, nl_5, nl_6, nl_7, nl_8, nl_9, nl_10, nl_11, nl_12, nl_13, nl_14, nl_15, nl_16, nl_17, nl_18, nl_19, nl_20, nl_21, nl_22, nl_23, nl_24, nl_25, nl_26, nl_27, nl_28, nl_29, nl_30, nl_32, nl_33, nl_34, nl_35, nl_36, nl_37, nl_38, nl_39, nl_40, nl_41, nl_42, nl_43, nl_44, nl_45, nl_46, nl_47, nl_48, nl_49, nl_50, nl_51, nl_52, nl_53, nl_54, nl_55, nl_56, nl_57, nl_58, nl_59, nl_60, nl_61, nl_62, nl_64, nl_65, nl_66, nl_67, nl_68, nl_69, nl_92, nl_97, nl_99, nl_100, nl_122, nl_127, nl_128, nl_131, nl_132, nl_150, nl_200, nl_255, nl_256, nl_300, nl_342, nl_380, nl_381, nl_400, nl_401, nl_420, nl_500, nl_600, nl_800, nl_999, nl_1000, nl_1023, nl_1024, nl_1200, nl_2048, nl_2100, nl_4096, nl_9999, nl_10000, nl_10240, nl_999999, nl_1000000, if_pos, if_neg, eA2, hb1, hm, eg2, g1]
      · have ho1 := hon (mj_u g 205 0 0)
        have hm8 : ¬ 8 < m := by omega
        simp (disch := omega) only [e245, q245_0, q245_9, q245_15, q245_44, q245_49, q245_56, ↓reduceIte, Bool.false_eq_true, eq_self, mj_10, mj_01, mj_n10, mj_0n1, mj_1n1, mj_n11, mj_bi_some, mj_bv_some, mj_bj_some, mj_br_some, mj_r0, mj_r1, mj_q0, mj_q1, mj_b01, mj_q2, if_true, if_false, mj_it, mj_if, true_and, and_true, false_and, and_false, not_true_eq_false, not_false_eq_true, true_or, or_true, false_or, or_false, mj_nIle, mj_nIlt, mj_nIeq, mj_nI0, mj_nIc, mj_nIadd, mj_nIs, mj_ez, mj_ze, mj_eo, mj_ltz, mj_lez, mj_zlt, mj_olt, mj_lto, mj_leo, mj_ole, mj_nIn, mj_nnI, nl_2, nl_3, nl_4, nl_5, nl_6, nl_7, nl_8, nl_9, nl_10, nl_11, nl_12, nl_13, nl_14, nl_15, nl_16, nl_17, nl_18, nl_19, nl_20, nl_21, nl_22, nl_23, nl_24, nl_25, nl_26, nl_27, nl_28, nl_29, nl_30, nl_32, nl_33, nl_34, nl_35, nl_36, nl_37, nl_38, nl_39, nl_40, nl_41, nl_42, nl_43, nl_44, nl_45, nl_46, nl_47, nl_48, nl_49, nl_50, nl_51, nl_52, nl_53, nl_54, nl_55, nl_56, nl_57, nl_58, nl_59, nl_60, nl_61, nl_62, nl_64, nl_65, nl_66, nl_67, nl_68, nl_69, nl_92, nl_97, nl_99, nl_100, nl_122, nl_127, nl_128, nl_131, nl_132, nl_150, nl_200, nl_255, nl_256, nl_300, nl_342, nl_380, nl_381, nl_400, nl_401, nl_420, nl_500, nl_600, nl_800, nl_999, nl_1000, nl_1023, nl_1024, nl_1200, nl_2048, nl_2100, nl_4096, nl_9999, nl_10000, nl_10240, nl_999999, nl_1000000, if_pos, if_neg, epr, ho1, hm8, ez2, eL2]
    · by_cases ha : nI 10 ≤ a ∧ a ≤ nI (9 + m)
      · obtain ⟨A, hA, rfl⟩ := mj_ofn (Int32.le_trans (by decide) ha.1)
        have hA1 : 10 ≤ A := by have := ha.1; rw [mj_nIle (by omega) hA] at this; exact this
        have hA2 : A ≤ 9 + m := by have := ha.2; rw [mj_nIle hA (by omega)] at this; exact this
        obtain ⟨K, rfl⟩ : ∃ K, A = 10 + K := ⟨A - 10, by omega⟩
        obtain ⟨P, hPe⟩ : ∃ P, P = sa_P f t p := ⟨_, rfl⟩
        have hPb : ∀ u v, P u v ≤ 1 := fun u v => by rw [hPe]; exact sa_P_bd f t p u v
        rw [← hPe] at g2 hWok hQ
        refine ⟨wz_io (sa_ix P Q T (sa_W P Q T K).1 (sa_W P Q T K).2), w, c, g, hl, z, ?_, ?_, zI, hw⟩
        · have e1 : mj_dc mj_P E (d + 99) 27 [.ref 194, .int (nI (10 + K))] (mj_hw w c g hl) = _ := s_told194 (d := d + 98) (n := m) (by omega) (by omega) g0
          rw [g2 K (by omega)] at e1
          have hb1 := hbc hi
          simp (disch := omega) only [q127_0, q127_10, q127_15, q127_22, q127_37, q127_45, e127, ↓reduceIte, Bool.false_eq_true, eq_self, mj_10, mj_01, mj_n10, mj_0n1, mj_1n1, mj_n11, mj_bi_some, mj_bv_some, mj_bj_some, mj_br_some, mj_r0, mj_r1, mj_q0, mj_q1, mj_b01, mj_q2, if_true, if_false, mj_it, mj_if, true_and, and_true, false_and, and_false, not_true_eq_false, not_false_eq_true, true_or, or_true, false_or, or_false, mj_nIle, mj_nIlt, mj_nIeq, mj_nI0, mj_nIc, mj_nIadd, mj_nIs, mj_ez, mj_ze, mj_eo, mj_ltz, mj_lez, mj_zlt, mj_olt, mj_lto, mj_leo, mj_ole, mj_nIn, mj_nnI, nl_2, nl_3, nl_4, nl_5, nl_6, nl_7, nl_8, nl_9, nl_10, nl_11, nl_12, nl_13, nl_14, nl_15, nl_16, nl_17, nl_18, nl_19, nl_20, nl_21, nl_22, nl_23, nl_24, nl_25, nl_26, nl_27, nl_28, nl_29, nl_30, nl_32, nl_33, nl_34, nl_35, nl_36, nl_37, nl_38, nl_39, nl_40, nl_41, nl_42, nl_43, nl_44, nl_45, nl_46, nl_47, nl_48, nl_49, nl_50, nl_51, nl_52, nl_53, nl_54, nl_55, nl_56, nl_57, nl_58, nl_59, nl_60, nl_61, nl_62, nl_64, nl_65, nl_66, nl_67, nl_68, nl_69, nl_92, nl_97, nl_99, nl_100, nl_122, nl_127, nl_128, nl_131, nl_132, nl_150, nl_200, nl_255, nl_256, nl_300, nl_342, nl_380, nl_381, nl_400, nl_401, nl_420, nl_500, nl_600, nl_800, nl_999, nl_1000, nl_1023, nl_1024, nl_1200, nl_2048, nl_2100, nl_4096, nl_9999, nl_10000, nl_10240, nl_999999, nl_1000000, if_pos, if_neg, eA2, hb1, hm, eg2, e1]
        · have hlst : ∀ k, (sa_W P Q T k).2 ≤ 10 := by
            intro k
            cases k with
            | zero => exact Nat.le_refl _
            | succ k =>
              show (match sa_ix P Q T (sa_W P Q T k).1 (sa_W P Q T k).2 with | none => sa_W P Q T k | some i => ((sa_W P Q T k).1 ||| 2 ^ i, i)).2 ≤ 10
              cases hix : sa_ix P Q T (sa_W P Q T k).1 (sa_W P Q T k).2 with
              | some i => have := (sa_ok0.2 i hix).1; show i ≤ 10; omega
              | none =>
                show (sa_W P Q T k).2 ≤ 10
                clear hix
                induction k with
                | zero => exact Nat.le_refl _
                | succ k ih =>
                  show (match sa_ix P Q T (sa_W P Q T k).1 (sa_W P Q T k).2 with | none => sa_W P Q T k | some i => ((sa_W P Q T k).1 ||| 2 ^ i, i)).2 ≤ 10
                  cases hix : sa_ix P Q T (sa_W P Q T k).1 (sa_W P Q T k).2 with
                  | some i => have := (sa_ok0.2 i hix).1; show i ≤ 10; omega
                  | none => exact ih
          -- one step of the order
          have hstep : ∀ k, k < m → ∃ i, sa_ix P Q T (sa_W P Q T k).1 (sa_W P Q T k).2 = some i ∧ mj_den mj_P E (d + 99) 245 84 [.ref 205, .int (nI (10 + K)), .int (nI T), .int (nI (Q (11 * (sa_W P Q T k).1 + (sa_W P Q T k).2))), .int (nI (sa_W P Q T k).1), .int (sa_i (sa_W P Q T k).2), .int (nI k), .int 0] [] (mj_hw w c z hl) = mj_den mj_P E (d + 99) 245 72 [.ref 205, .int (nI (10 + K)), .int (nI T), .int (nI (Q (11 * (sa_W P Q T (k + 1)).1 + (sa_W P Q T (k + 1)).2))), .int (nI (sa_W P Q T (k + 1)).1), .int (sa_i (sa_W P Q T (k + 1)).2), .int (nI (k + 1)), .int (nI i)] [] (mj_hw w c z hl) := by
            intro k hk
            obtain ⟨hsub, hSl, _, hsome⟩ := hWok k (by omega)
            obtain ⟨i, hix⟩ := hsome hk
            obtain ⟨i1, i2, i3, i4⟩ := (wz_ix_ok _ _ 10).2 i hix
            obtain ⟨i5, i6⟩ := (wbl_clear i1).mp i2
            refine ⟨i, hix, ?_⟩
            have hll := hlst k
            rw [sa_W_s hix]
            have hGs := hQ (sa_W P Q T k).1 (sa_W P Q T k).2 (by omega) hll
            unfold sa_F at hGs
            rw [hix] at hGs
            have hGs : Q (11 * (sa_W P Q T k).1 + (sa_W P Q T k).2) = sa_g P Q (sa_W P Q T k).1 (sa_W P Q T k).2 i := hGs
            show mj_den mj_P E (d + 99) 245 84 [.ref 205, .int (nI (10 + K)), .int (nI T), .int (nI (Q (11 * (sa_W P Q T k).1 + (sa_W P Q T k).2))), .int (nI (sa_W P Q T k).1), .int (sa_i (sa_W P Q T k).2), .int (nI k), .int 0] [] (mj_hw w c z hl) = mj_den mj_P E (d + 99) 245 72 [.ref 205, .int (nI (10 + K)), .int (nI T), .int (nI (Q (11 * ((sa_W P Q T k).1 ||| 2 ^ i) + i))), .int (nI ((sa_W P Q T k).1 ||| 2 ^ i)), .int (sa_i i), .int (nI (k + 1)), .int (nI i)] [] (mj_hw w c z hl)
            generalize (sa_W P Q T k).1 = s at hsub hSl i2 i3 i4 i5 hGs
            generalize (sa_W P Q T k).2 = last at i3 i4 hGs hll
            have hgb : ∀ u, u < 10 → (wbl T s).testBit u = false → mj_dc mj_P E (d + 99) 242 [.ref 205, .int (nI s), .int (sa_i last), .int (nI u)] (mj_hw w c z hl) = some (some (.int (nI (sa_g P Q s last u))), mj_hw w c z hl) ∧ sa_g P Q s last u ≤ 30000 := fun u hu hb => by
              have hle := mj_sub_le (mj_sub_or hsub ((wbl_clear hu).mp hb).2)
              refine ⟨by rw [hPe]; exact s_satBy (d := d + 96) hSl hll hu ht10 zM (zq s u hsub hu hb), ?_⟩
              have h1 := hQb (s ||| 2 ^ u) u (by omega) (by omega)
              have h2 := sa_b_bd hPb last u
              unfold sa_g; omega
            have hdl : mj_df T s < 1024 := mj_df_le (n := 10) _ _ hT
            have hbit : ∀ u, u < 10 → (mj_df T s).testBit u = !(wbl T s).testBit u := fun u hu => by
              rw [mj_df_bit, wbl_bit hu]
              cases T.testBit u <;> cases s.testBit u <;> rfl
            rw [hGs]
            refine (lp_up (fun j => mj_den mj_P E (d + 99) 245 84 [.ref 205, .int (nI (10 + K)), .int (nI T), .int (nI (sa_g P Q s last i)), .int (nI s), .int (sa_i last), .int (nI k), .int (nI j)] [] (mj_hw w c z hl)) i (fun j hj => ?_)).trans ?_
            · show mj_den mj_P E (d + 99) 245 84 [.ref 205, .int (nI (10 + K)), .int (nI T), .int (nI (sa_g P Q s last i)), .int (nI s), .int (sa_i last), .int (nI k), .int (nI j)] [] (mj_hw w c z hl) = mj_den mj_P E (d + 99) 245 84 [.ref 205, .int (nI (10 + K)), .int (nI T), .int (nI (sa_g P Q s last i)), .int (nI s), .int (sa_i last), .int (nI k), .int (nI (j + 1))] [] (mj_hw w c z hl)
              rw [q245_84]
              have hbj := hbit j (by omega)
              by_cases hb : (wbl T s).testBit j = true
              · rw [hb] at hbj
                have hbj : (mj_df T s).testBit j = false := hbj
                simp (disch := omega) only [↓reduceIte, Bool.false_eq_true, eq_self, mj_10, mj_01, mj_n10, mj_0n1, mj_1n1, mj_n11, mj_bi_some, mj_bv_some, mj_bj_some, mj_br_some, mj_r0, mj_r1, mj_q0, mj_q1, mj_b01, mj_q2, if_true, if_false, mj_it, mj_if, true_and, and_true, false_and, and_false, not_true_eq_false, not_false_eq_true, true_or, or_true, false_or, or_false, mj_nIle, mj_nIlt, mj_nIeq, mj_nI0, mj_nIc, mj_nIadd, mj_nIs, mj_ez, mj_ze, mj_eo, mj_ltz, mj_lez, mj_zlt, mj_olt, mj_lto, mj_leo, mj_ole, mj_nIn, mj_nnI, nl_2, nl_3, nl_4, nl_5, nl_6, nl_7, nl_8, nl_9, nl_10, nl_11, nl_12, nl_13, nl_14, nl_15, nl_16, nl_17, nl_18, nl_19, nl_20, nl_21, nl_22, nl_23, nl_24, nl_25, nl_26, nl_27, nl_28, nl_29, nl_30, nl_32, nl_33, nl_34, nl_35, nl_36, nl_37, nl_38, nl_39, nl_40, nl_41, nl_42, nl_43, nl_44, nl_45, nl_46, nl_47, nl_48, nl_49, nl_50, nl_51, nl_52, nl_53, nl_54, nl_55, nl_56, nl_57, nl_58, nl_59, nl_60, nl_61, nl_62, nl_64, nl_65, nl_66, nl_67, nl_68, nl_69, nl_92, nl_97, nl_99, nl_100, nl_122, nl_127, nl_128, nl_131, nl_132, nl_150, nl_200, nl_255, nl_256, nl_300, nl_342, nl_380, nl_381, nl_400, nl_401, nl_420, nl_500, nl_600, nl_800, nl_999, nl_1000, nl_1023, nl_1024, nl_1200, nl_2048, nl_2100, nl_4096, nl_9999, nl_10000, nl_10240, nl_999999, nl_1000000, if_pos, if_neg, bx_df, s_hM, hbj, q245_96, q245_113]
              · have hb2 : (wbl T s).testBit j = false := by simpa using hb
                rw [hb2] at hbj
                have hbj : (mj_df T s).testBit j = true := hbj
                obtain ⟨eb, bb⟩ := hgb j (by omega) hb2
                obtain ⟨_, bi⟩ := hgb i i1 i2
                have hlt := i3 j hj hb2
                have hne : ¬ sa_g P Q s last j = sa_g P Q s last i := by omega
                simp (disch := omega) only [↓reduceIte, Bool.false_eq_true, eq_self, mj_10, mj_01, mj_n10, mj_0n1, mj_1n1, mj_n11, mj_bi_some, mj_bv_some, mj_bj_some, mj_br_some, mj_r0, mj_r1, mj_q0, mj_q1, mj_b01, mj_q2, if_true, if_false, mj_it, mj_if, true_and, and_true, false_and, and_false, not_true_eq_false, not_false_eq_true, true_or, or_true, false_or, or_false, mj_nIle, mj_nIlt, mj_nIeq, mj_nI0, mj_nIc, mj_nIadd, mj_nIs, mj_ez, mj_ze, mj_eo, mj_ltz, mj_lez, mj_zlt, mj_olt, mj_lto, mj_leo, mj_ole, mj_nIn, mj_nnI, nl_2, nl_3, nl_4, nl_5, nl_6, nl_7, nl_8, nl_9, nl_10, nl_11, nl_12, nl_13, nl_14, nl_15, nl_16, nl_17, nl_18, nl_19, nl_20, nl_21, nl_22, nl_23, nl_24, nl_25, nl_26, nl_27, nl_28, nl_29, nl_30, nl_32, nl_33, nl_34, nl_35, nl_36, nl_37, nl_38, nl_39, nl_40, nl_41, nl_42, nl_43, nl_44, nl_45, nl_46, nl_47, nl_48, nl_49, nl_50, nl_51, nl_52, nl_53, nl_54, nl_55, nl_56, nl_57, nl_58, nl_59, nl_60, nl_61, nl_62, nl_64, nl_65, nl_66, nl_67, nl_68, nl_69, nl_92, nl_97, nl_99, nl_100, nl_122, nl_127, nl_128, nl_131, nl_132, nl_150, nl_200, nl_255, nl_256, nl_300, nl_342, nl_380, nl_381, nl_400, nl_401, nl_420, nl_500, nl_600, nl_800, nl_999, nl_1000, nl_1023, nl_1024, nl_1200, nl_2048, nl_2100, nl_4096, nl_9999, nl_10000, nl_10240, nl_999999, nl_1000000, if_pos, if_neg, bx_df, s_hM, hbj, q245_96, eb, q245_109, hne, q245_113]
            · show mj_den mj_P E (d + 99) 245 84 [.ref 205, .int (nI (10 + K)), .int (nI T), .int (nI (sa_g P Q s last i)), .int (nI s), .int (sa_i last), .int (nI k), .int (nI i)] [] (mj_hw w c z hl) = _
              obtain ⟨eb, bb⟩ := hgb i i1 i2
              have hbj := hbit i i1
              rw [i2] at hbj
              have hbj : (mj_df T s).testBit i = true := hbj
              have hii : sa_i i = nI i := if_neg (by omega)
              rw [q245_84]
              simp (disch := omega) only [↓reduceIte, Bool.false_eq_true, eq_self, mj_10, mj_01, mj_n10, mj_0n1, mj_1n1, mj_n11, mj_bi_some, mj_bv_some, mj_bj_some, mj_br_some, mj_r0, mj_r1, mj_q0, mj_q1, mj_b01, mj_q2, if_true, if_false, mj_it, mj_if, true_and, and_true, false_and, and_false, not_true_eq_false, not_false_eq_true, true_or, or_true, false_or, or_false, mj_nIle, mj_nIlt, mj_nIeq, mj_nI0, mj_nIc, mj_nIadd, mj_nIs, mj_ez, mj_ze, mj_eo, mj_ltz, mj_lez, mj_zlt, mj_olt, mj_lto, mj_leo, mj_ole, mj_nIn, mj_nnI, nl_2, nl_3, nl_4, nl_5, nl_6, nl_7, nl_8, nl_9, nl_10, nl_11, nl_12, nl_13, nl_14, nl_15, nl_16, nl_17, nl_18, nl_19, nl_20, nl_21, nl_22, nl_23, nl_24, nl_25, nl_26, nl_27, nl_28, nl_29, nl_30, nl_32, nl_33, nl_34, nl_35, nl_36, nl_37, nl_38, nl_39, nl_40, nl_41, nl_42, nl_43, nl_44, nl_45, nl_46, nl_47, nl_48, nl_49, nl_50, nl_51, nl_52, nl_53, nl_54, nl_55, nl_56, nl_57, nl_58, nl_59, nl_60, nl_61, nl_62, nl_64, nl_65, nl_66, nl_67, nl_68, nl_69, nl_92, nl_97, nl_99, nl_100, nl_122, nl_127, nl_128, nl_131, nl_132, nl_150, nl_200, nl_255, nl_256, nl_300, nl_342, nl_380, nl_381, nl_400, nl_401, nl_420, nl_500, nl_600, nl_800, nl_999, nl_1000, nl_1023, nl_1024, nl_1200, nl_2048, nl_2100, nl_4096, nl_9999, nl_10000, nl_10240, nl_999999, nl_1000000, if_pos, if_neg, bx_df, s_hM, hbj, q245_96, eb, q245_109]
              by_cases h10 : last = 10
              · subst h10
                have hg0 : sa_g P Q s 10 i = Q (11 * (s ||| 2 ^ i) + i) := by unfold sa_g sa_b; rw [if_pos rfl, Nat.zero_add]
                have hm1 : sa_i 10 = -1 := rfl
                rw [hm1, q245_122, if_neg (fun h => h rfl), q245_141, hg0, Int32.sub_zero, bx_one i (by omega), bx_or, mj_nIs, hii]
              · have hli : sa_i last = nI last := if_neg h10
                have hne : ¬ nI last = (-1 : Int32) := by
                  intro z
                  have : (0 : Int32) ≤ nI last := by rw [mj_nI0 (by omega)]; trivial
                  rw [z] at this; exact absurd this (by decide)
                have ep : mj_dc mj_P E (d + 99) 241 [.ref 205, .int (nI last), .int (nI i)] (mj_hw w c z hl) = some (some (.int (nI (P last i + P i last))), mj_hw w c z hl) := by rw [hPe]; exact s_pb (d := d + 97) (by omega) i1 ht10 zM
                have hg0 : sa_g P Q s last i = (P last i + P i last) + Q (11 * (s ||| 2 ^ i) + i) := by unfold sa_g sa_b; rw [if_neg h10]
                have hsb : nI ((P last i + P i last) + Q (11 * (s ||| 2 ^ i) + i)) - nI (P last i + P i last) = nI (Q (11 * (s ||| 2 ^ i) + i)) := by rw [mj_nIsub (by omega)]; congr 1; omega
                rw [hli, q245_122, if_pos hne, q245_133, ep, mj_bi_some, q245_141, hg0, hsb, bx_one i (by omega), bx_or, mj_nIs, hii]
          have hE1 : nI (10 + K) - nI 10 = nI K := by rw [mj_nIsub (by omega)]; congr 1; omega
          have hin2 : (nI 10 ≤ nI (10 + K) ∧ nI (10 + K) ≤ nI 9 + nI m) := by rw [mj_nIadd]; exact ha
          have key := lp_ex (fun k (u7 : Value) => mj_den mj_P E (d + 99) 245 72 [.ref 205, .int (nI (10 + K)), .int (nI T), .int (nI (Q (11 * (sa_W P Q T k).1 + (sa_W P Q T k).2))), .int (nI (sa_W P Q T k).1), .int (sa_i (sa_W P Q T k).2), .int (nI k), u7] [] (mj_hw w c z hl)) (fun k u7 => True) (K + 1) (fun k u7 hk _ => ?_) (.float 0) trivial
          · obtain ⟨u7, e3, _⟩ := key
            obtain ⟨i, hix⟩ := (hWok K (by omega)).2.2.2 (by omega)
            have hi10 := (sa_ok0.2 i hix).1
            have hii : sa_i i = nI i := if_neg (by omega)
            have e3' : mj_den mj_P E (d + 99) 245 72 [.ref 205, .int (nI (10 + K)), .int (nI T), .int (nI (Q 10)), .int 0, .int (-1), .int 0, .float 0] [] (mj_hw w c z hl) = mj_den mj_P E (d + 99) 245 72 [.ref 205, .int (nI (10 + K)), .int (nI T), .int (nI (Q (11 * (sa_W P Q T (K + 1)).1 + (sa_W P Q T (K + 1)).2))), .int (nI (sa_W P Q T (K + 1)).1), .int (sa_i (sa_W P Q T (K + 1)).2), .int (nI (K + 1)), u7] [] (mj_hw w c z hl) := e3
            have ho1 := hon (mj_u g 205 0 0)
            have hm8 : ¬ 8 < m := by omega
            simp (disch := omega) only [xg245, g245_0, g245_9, g245_15, g245_35, g245_39, g245_44, g245_49, g245_56, g245_63, s_isIn, ↓reduceIte, Bool.false_eq_true, eq_self, mj_10, mj_01, mj_n10, mj_0n1, mj_1n1, mj_n11, mj_bi_some, mj_bv_some, mj_bj_some, mj_br_some, mj_r0, mj_r1, mj_q0, mj_q1, mj_b01, mj_q2, if_true, if_false, mj_it, mj_if, true_and, and_true, false_and, and_false, not_true_eq_false, not_false_eq_true, true_or, or_true, false_or, or_false, mj_nIle, mj_nIlt, mj_nIeq, mj_nI0, mj_nIc, mj_nIadd, mj_nIs, mj_ez, mj_ze, mj_eo, mj_ltz, mj_lez, mj_zlt, mj_olt, mj_lto, mj_leo, mj_ole, mj_nIn, mj_nnI, nl_2, nl_3, nl_4, nl_5, nl_6, nl_7, nl_8, nl_9, nl_10, nl_11, nl_12, nl_13, nl_14, nl_15, nl_16, nl_17, nl_18, nl_19, nl_20, nl_21, nl_22, nl_23, nl_24, nl_25, nl_26, nl_27, nl_28, nl_29, nl_30, nl_32, nl_33, nl_34, nl_35, nl_36, nl_37, nl_38, nl_39, nl_40, nl_41, nl_42, nl_43, nl_44, nl_45, nl_46, nl_47, nl_48, nl_49, nl_50, nl_51, nl_52, nl_53, nl_54, nl_55, nl_56, nl_57, nl_58, nl_59, nl_60, nl_61, nl_62, nl_64, nl_65, nl_66, nl_67, nl_68, nl_69, nl_92, nl_97, nl_99, nl_100, nl_122, nl_127, nl_128, nl_131, nl_132, nl_150, nl_200, nl_255, nl_256, nl_300, nl_342, nl_380, nl_381, nl_400, nl_401, nl_420, nl_500, nl_600, nl_800, nl_999, nl_1000, nl_1023, nl_1024, nl_1200, nl_2048, nl_2100, nl_4096, nl_9999, nl_10000, nl_10240, nl_999999, nl_1000000, if_pos, if_neg, ha0, epr, ho1, hm8, hin2, mj_bt, ez2, eL2]
            rw [e3', g245_72, nl_10, hE1, if_pos (by rw [mj_nIlt (by omega) (by omega)]; omega), g245_162, sa_W_s hix, hix]
            show some (some (Value.int (sa_i i)), mj_hw w c z hl) = _
            rw [hii]; rfl
          · obtain ⟨i, _, hi2⟩ := hstep k (by omega)
            refine ⟨.int (nI i), ?_, trivial⟩
            show mj_den mj_P E (d + 99) 245 72 [.ref 205, .int (nI (10 + K)), .int (nI T), .int (nI (Q (11 * (sa_W P Q T k).1 + (sa_W P Q T k).2))), .int (nI (sa_W P Q T k).1), .int (sa_i (sa_W P Q T k).2), .int (nI k), u7] [] (mj_hw w c z hl) = _
            rw [g245_72, nl_10, hE1, if_neg (by rw [mj_nIlt (by omega) (by omega)]; omega)]
            exact hi2
      · refine ⟨-1, w, c, g, hl, mj_u g 205 0 0, ?_, ?_, gI, hw⟩
        · have e1 : mj_dc mj_P E (d + 99) 27 [.ref 194, .int a] (mj_hw w c g hl) = _ := s_told194n (d := d + 98) (n := m) (by omega) ha0 ha g0
          have hb1 := hbc hi
          simp (disch := omega) only [q127_0, q127_10, q127_15, q127_22, q127_37, q127_45, e127, ↓reduceIte, Bool.false_eq_true, eq_self, mj_10, mj_01, mj_n10, mj_0n1, mj_1n1, mj_n11, mj_bi_some, mj_bv_some, mj_bj_some, mj_br_some, mj_r0, mj_r1, mj_q0, mj_q1, mj_b01, mj_q2, if_true, if_false, mj_it, mj_if, true_and, and_true, false_and, and_false, not_true_eq_false, not_false_eq_true, true_or, or_true, false_or, or_false, mj_nIle, mj_nIlt, mj_nIeq, mj_nI0, mj_nIc, mj_nIadd, mj_nIs, mj_ez, mj_ze, mj_eo, mj_ltz, mj_lez, mj_zlt, mj_olt, mj_lto, mj_leo, mj_ole, mj_nIn, mj_nnI, nl_2, nl_3, nl_4, nl_5, nl_6, nl_7, nl_8, nl_9, nl_10, nl_11, nl_12, nl_13, nl_14, nl_15, nl_16, nl_17, nl_18, nl_19, nl_20, nl_21, nl_22, nl_23, nl_24, nl_25, nl_26, nl_27, nl_28, nl_29, nl_30, nl_32, nl_33, nl_34, nl_35, nl_36, nl_37, nl_38, nl_39, nl_40, nl_41, nl_42, nl_43, nl_44, nl_45, nl_46, nl_47, nl_48, nl_49, nl_50, nl_51, nl_52, nl_53, nl_54, nl_55, nl_56, nl_57, nl_58, nl_59, nl_60, nl_61, nl_62, nl_64, nl_65, nl_66, nl_67, nl_68, nl_69, nl_92, nl_97, nl_99, nl_100, nl_122, nl_127, nl_128, nl_131, nl_132, nl_150, nl_200, nl_255, nl_256, nl_300, nl_342, nl_380, nl_381, nl_400, nl_401, nl_420, nl_500, nl_600, nl_800, nl_999, nl_1000, nl_1023, nl_1024, nl_1200, nl_2048, nl_2100, nl_4096, nl_9999, nl_10000, nl_10240, nl_999999, nl_1000000, if_pos, if_neg, eA2, hb1, hm, eg2, e1]
        · have ha2 : ¬ (nI 10 ≤ a ∧ a ≤ nI 9 + nI m) := by rw [mj_nIadd]; exact ha
          have ho1 := hon (mj_u g 205 0 0)
          have hm8 : ¬ 8 < m := by omega
          simp (disch := omega) only [e245, q245_0, q245_9, q245_15, q245_35, q245_39, q245_42, s_isIn, ↓reduceIte, Bool.false_eq_true, eq_self, mj_10, mj_01, mj_n10, mj_0n1, mj_1n1, mj_n11, mj_bi_some, mj_bv_some, mj_bj_some, mj_br_some, mj_r0, mj_r1, mj_q0, mj_q1, mj_b01, mj_q2, if_true, if_false, mj_it, mj_if, true_and, and_true, false_and, and_false, not_true_eq_false, not_false_eq_true, true_or, or_true, false_or, or_false, mj_nIle, mj_nIlt, mj_nIeq, mj_nI0, mj_nIc, mj_nIadd, mj_nIs, mj_ez, mj_ze, mj_eo, mj_ltz, mj_lez, mj_zlt, mj_olt, mj_lto, mj_leo, mj_ole, mj_nIn, mj_nnI, nl_2, nl_3, nl_4, nl_5, nl_6, nl_7, nl_8, nl_9, nl_10, nl_11, nl_12, nl_13, nl_14, nl_15, nl_16, nl_17, nl_18, nl_19, nl_20, nl_21, nl_22, nl_23, nl_24, nl_25, nl_26, nl_27, nl_28, nl_29, nl_30, nl_32, nl_33, nl_34, nl_35, nl_36, nl_37, nl_38, nl_39, nl_40, nl_41, nl_42, nl_43, nl_44, nl_45, nl_46, nl_47, nl_48, nl_49, nl_50, nl_51, nl_52, nl_53, nl_54, nl_55, nl_56, nl_57, nl_58, nl_59, nl_60, nl_61, nl_62, nl_64, nl_65, nl_66, nl_67, nl_68, nl_69, nl_92, nl_97, nl_99, nl_100, nl_122, nl_127, nl_128, nl_131, nl_132, nl_150, nl_200, nl_255, nl_256, nl_300, nl_342, nl_380, nl_381, nl_400, nl_401, nl_420, nl_500, nl_600, nl_800, nl_999, nl_1000, nl_1023, nl_1024, nl_1200, nl_2048, nl_2100, nl_4096, nl_9999, nl_10000, nl_10240, nl_999999, nl_1000000, if_pos, if_neg, ha0, epr, ho1, hm8, ha2]
  · have hb1 := hbc hi
    have ho1 := hon (mj_u hi 205 0 0)
    have epr := hprs (mj_u hi 205 0 0) (by rw [mj_u_pt (by omega)]; exact mN) (fun k => mj_u_pt (by omega))
    have hm8 : 8 < mj_pc 10 T := by omega
    refine ⟨-1, w, c, hi, hl, mj_u hi 205 0 0, ?_, ?_, iv_told q, hw⟩
    · simp (disch := omega) only [q127_0, q127_10, q127_15, q127_22, q127_37, q127_45, e127, ↓reduceIte, Bool.false_eq_true, eq_self, mj_10, mj_01, mj_n10, mj_0n1, mj_1n1, mj_n11, mj_bi_some, mj_bv_some, mj_bj_some, mj_br_some, mj_r0, mj_r1, mj_q0, mj_q1, mj_b01, mj_q2, if_true, if_false, mj_it, mj_if, true_and, and_true, false_and, and_false, not_true_eq_false, not_false_eq_true, true_or, or_true, false_or, or_false, mj_nIle, mj_nIlt, mj_nIeq, mj_nI0, mj_nIc, mj_nIadd, mj_nIs, mj_ez, mj_ze, mj_eo, mj_ltz, mj_lez, mj_zlt, mj_olt, mj_lto, mj_leo, mj_ole, mj_nIn, mj_nnI, nl_2, nl_3, nl_4, nl_5, nl_6, nl_7, nl_8, nl_9, nl_10, nl_11, nl_12, nl_13, nl_14, nl_15, nl_16, nl_17, nl_18, nl_19, nl_20, nl_21, nl_22, nl_23, nl_24, nl_25, nl_26, nl_27, nl_28, nl_29, nl_30, nl_32, nl_33, nl_34, nl_35, nl_36, nl_37, nl_38, nl_39, nl_40, nl_41, nl_42, nl_43, nl_44, nl_45, nl_46, nl_47, nl_48, nl_49, nl_50, nl_51, nl_52, nl_53, nl_54, nl_55, nl_56, nl_57, nl_58, nl_59, nl_60, nl_61, nl_62, nl_64, nl_65, nl_66, nl_67, nl_68, nl_69, nl_92, nl_97, nl_99, nl_100, nl_122, nl_127, nl_128, nl_131, nl_132, nl_150, nl_200, nl_255, nl_256, nl_300, nl_342, nl_380, nl_381, nl_400, nl_401, nl_420, nl_500, nl_600, nl_800, nl_999, nl_1000, nl_1023, nl_1024, nl_1200, nl_2048, nl_2100, nl_4096, nl_9999, nl_10000, nl_10240, nl_999999, nl_1000000, if_pos, if_neg, eA2, hb1, hm]
    · simp (disch := omega) only [e245, q245_0, q245_9, q245_15, q245_42, ↓reduceIte, Bool.false_eq_true, eq_self, mj_10, mj_01, mj_n10, mj_0n1, mj_1n1, mj_n11, mj_bi_some, mj_bv_some, mj_bj_some, mj_br_some, mj_r0, mj_r1, mj_q0, mj_q1, mj_b01, mj_q2, if_true, if_false, mj_it, mj_if, true_and, and_true, false_and, and_false, not_true_eq_false, not_false_eq_true, true_or, or_true, false_or, or_false, mj_nIle, mj_nIlt, mj_nIeq, mj_nI0, mj_nIc, mj_nIadd, mj_nIs, mj_ez, mj_ze, mj_eo, mj_ltz, mj_lez, mj_zlt, mj_olt, mj_lto, mj_leo, mj_ole, mj_nIn, mj_nnI, nl_2, nl_3, nl_4, nl_5, nl_6, nl_7, nl_8, nl_9, nl_10, nl_11, nl_12, nl_13, nl_14, nl_15, nl_16, nl_17, nl_18, nl_19, nl_20, nl_21, nl_22, nl_23, nl_24, nl_25, nl_26, nl_27, nl_28, nl_29, nl_30, nl_32, nl_33, nl_34, nl_35, nl_36, nl_37, nl_38, nl_39, nl_40, nl_41, nl_42, nl_43, nl_44, nl_45, nl_46, nl_47, nl_48, nl_49, nl_50, nl_51, nl_52, nl_53, nl_54, nl_55, nl_56, nl_57, nl_58, nl_59, nl_60, nl_61, nl_62, nl_64, nl_65, nl_66, nl_67, nl_68, nl_69, nl_92, nl_97, nl_99, nl_100, nl_122, nl_127, nl_128, nl_131, nl_132, nl_150, nl_200, nl_255, nl_256, nl_300, nl_342, nl_380, nl_381, nl_400, nl_401, nl_420, nl_500, nl_600, nl_800, nl_999, nl_1000, nl_1023, nl_1024, nl_1200, nl_2048, nl_2100, nl_4096, nl_9999, nl_10000, nl_10240, nl_999999, nl_1000000, if_pos, if_neg, epr, ho1, hm8]
