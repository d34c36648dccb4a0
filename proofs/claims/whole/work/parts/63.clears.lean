/-! clears -/
def wk_len (s : Nat) : Nat := if s = 0 then 0 else Nat.log2 s + 1
theorem wk_len_ok : ∀ s, s < 4096 → nI 32 - mj_nlz (nI s) = nI (wk_len s) ∧ s < 2 ^ wk_len s ∧ wk_len s ≤ 12 ∧ (s < 1024 → wk_len s ≤ 10) := mj_4096 (by decide +kernel)
def wk_B (f t : Nat → Nat) (p W : Nat) : Nat → Nat
  | 0 => W
  | s + 1 => if mj_df s W = 0 ∧ mj_pc 12 s < mj_pc 12 (wk_B f t p W s) ∧ wk_I f t p W 10 s = W then s else wk_B f t p W s
theorem wk_B_s (f t : Nat → Nat) (p W s : Nat) : wk_B f t p W (s + 1) = if mj_df s W = 0 ∧ mj_pc 12 s < mj_pc 12 (wk_B f t p W s) ∧ wk_I f t p W 10 s = W then s else wk_B f t p W s := rfl
theorem mj_df0 {a b : Nat} : mj_df a b = 0 ↔ ∀ j, a.testBit j = true → b.testBit j = true := by
  constructor
  · intro h j hj
    have h1 : (mj_df a b).testBit j = false := by rw [h, Nat.zero_testBit]
    rw [mj_df_bit, hj, Bool.true_and] at h1
    cases hz : b.testBit j with
    | true => rfl
    | false => rw [hz] at h1; cases h1
  · intro h
    apply Nat.eq_of_testBit_eq
    intro j
    rw [Nat.zero_testBit, mj_df_bit]
    cases ha : a.testBit j with
    | false => rfl
    | true => rw [h j ha]; rfl
theorem wk_TW (f t : Nat → Nat) (p W : Nat) : wk_T f t p W W = W := by
  apply Nat.eq_of_testBit_eq
  intro j
  rw [Bool.eq_iff_iff, wk_T_bit]
  constructor
  · rintro (h | ⟨_, h⟩) <;> exact h
  · intro h; exact Or.inl h
theorem wk_IW {f t : Nat → Nat} {p W s : Nat} (h : ∀ j, s.testBit j = true → W.testBit j = true) : wk_I f t p W 10 s = W ↔ wk_C f t p W s := by
  have e : s &&& W = s := by
    apply Nat.eq_of_testBit_eq
    intro j
    rw [Nat.testBit_and]
    cases ha : s.testBit j with
    | false => rfl
    | true => rw [h j ha]; rfl
  unfold wk_C
  rw [e]
  constructor
  · intro z j hj; rw [z]; exact hj
  · intro z
    apply Nat.eq_of_testBit_eq
    intro j
    rw [Bool.eq_iff_iff]
    exact ⟨wk_min (wk_TW f t p W) 10 s h j, z j⟩
theorem wk_B_ok {f t : Nat → Nat} {p W : Nat} (hW : W < 4096) : ∀ s, s ≤ W + 1 → (wk_B f t p W s < s ∨ wk_B f t p W s = W) ∧ mj_df (wk_B f t p W s) W = 0 ∧ wk_I f t p W 10 (wk_B f t p W s) = W ∧ ∀ r, r < s → mj_df r W = 0 → wk_I f t p W 10 r = W → mj_pc 12 (wk_B f t p W s) ≤ mj_pc 12 r ∧ (mj_pc 12 (wk_B f t p W s) = mj_pc 12 r → wk_B f t p W s ≤ r) := by
  intro s
  induction s with
  | zero =>
    intro _
    refine ⟨Or.inr rfl, mj_df0.mpr (fun j h => h), ?_, fun r hr => absurd hr (by omega)⟩
    have := wk_fix (f := f) (t := t) (p := p) (W := W) (s := W) (r := 0) (wk_TW f t p W) 10
    rw [show 0 + 10 = 10 by omega] at this
    exact this
  | succ s ih =>
    intro hs
    obtain ⟨i1, i2, i3, i4⟩ := ih (by omega)
    rw [wk_B_s]
    by_cases hc : mj_df s W = 0 ∧ mj_pc 12 s < mj_pc 12 (wk_B f t p W s) ∧ wk_I f t p W 10 s = W
    · rw [if_pos hc]
      refine ⟨Or.inl (by omega), hc.1, hc.2.2, fun r hr h1 h2 => ?_⟩
      by_cases hrs : r = s
      · subst hrs; exact ⟨Nat.le_refl _, fun _ => Nat.le_refl _⟩
      · have := i4 r (by omega) h1 h2; omega
    · rw [if_neg hc]
      refine ⟨by omega, i2, i3, fun r hr h1 h2 => ?_⟩
      by_cases hrs : r = s
      · subst hrs
        have h3 : ¬ mj_pc 12 r < mj_pc 12 (wk_B f t p W r) := fun z => hc ⟨h1, z, h2⟩
        refine ⟨by omega, fun he => ?_⟩
        rcases i1 with h4 | h4
        · omega
        · rw [h4] at he ⊢
          by_cases hrw : r = W
          · omega
          · have := wk_pc_lt (n := 12) (by omega) hW (mj_df0.mp h1) hrw
            omega
      · exact i4 r (by omega) h1 h2
theorem wk_same {f t : Nat → Nat} {p W m : Nat} (hW : W < 4096) (hm : W < 2 ^ m) (m12 : m ≤ 12) : ∃ F, F < 4096 ∧ wk_B f t p W (W + 1) = F ∧ wc_f (fun s => wc_u (wk_D f t p W) s m) W (2 ^ m) = nI F := by
  have h2 : 2 ^ m ≤ 4096 := Nat.pow_le_pow_right (n := 2) (by omega) m12
  obtain ⟨m1, m2⟩ := wc_f_min (fun s => wc_u (wk_D f t p W) s m) W (2 ^ m) h2
  obtain ⟨b1, b2, b3, b4⟩ := wk_B_ok (f := f) (t := t) (p := p) hW (W + 1) (Nat.le_refl _)
  have hcW : wk_C f t p W W := by
    intro j hj
    have e : W &&& W = W := Nat.and_self W
    rw [e]; exact wk_I_sub f t p W 10 W j hj
  rcases wc_f_lt (fun s => wc_u (wk_D f t p W) s m) W (2 ^ m) with h | ⟨F, hF1, hF⟩
  · exact absurd ((wk_cov hm).mpr hcW) (m1 h W hm)
  · refine ⟨F, by omega, ?_, hF⟩
    obtain ⟨f1, f2, f3⟩ := m2 F (by omega) hF
    have f2' := (wk_cov hm).mp f2
    have hr : mj_df W (wc_u (wk_D f t p W) (F &&& W) m) = 0 := by
      rw [wk_cov hm]
      intro j hj
      have e : F &&& W &&& W = F &&& W := by rw [Nat.and_assoc, Nat.and_self]
      rw [e]; exact f2' j hj
    have hle : F &&& W ≤ F := Nat.and_le_left
    have hsub : ∀ j, (F &&& W).testBit j = true → F.testBit j = true := fun j h => by rw [Nat.testBit_and, Bool.and_eq_true] at h; exact h.1
    have g1 := (f3 (F &&& W) (by omega) (by omega) hr).1
    have hFW : F &&& W = F := Classical.byContradiction (fun z => by
      have := wk_pc_lt (n := 12) (by omega) (by omega) hsub z
      omega)
    have hFs : ∀ j, F.testBit j = true → W.testBit j = true := fun j h => by rw [← hFW, Nat.testBit_and, Bool.and_eq_true] at h; exact h.2
    have hFle := wk_sub_le hFs
    have g2 := b4 F (by omega) (mj_df0.mpr hFs) ((wk_IW hFs).mpr f2')
    have hBle : wk_B f t p W (W + 1) ≤ W := wk_sub_le (mj_df0.mp b2)
    have g3 := f3 (wk_B f t p W (W + 1)) (by omega) (by omega) ((wk_cov hm).mpr ((wk_IW (mj_df0.mp b2)).mp b3))
    omega
section MJ63
variable {E : mj_E} {d w c : Nat} {hi : mj_HI} {hl : Nat → Nat → Int64}
theorem s_reach {f t : Nat → Nat} {p W : Nat} (hp : p ≤ 16) (hW : W < 1024) (h0 : hi 26 0 = nI p) (hf : ∀ i, i < p → hi 28 i = nI (f i) ∧ hi 29 i = nI (t i) ∧ f i < 10 ∧ t i < 10) : ∃ g, mj_dc mj_P E (d + 2) 90 [.ref 189, .int (nI W), .ref 26] (mj_hw w c hi hl) = some (none, mj_hw w c g hl) ∧ (∀ k, k < 10 → g 190 k = nI (wk_D f t p W k)) ∧ ∀ a k, a ≠ 190 → g a k = hi a k := by
  have hW10 : W < 2 ^ 10 := hW
  -- first row
  have key1 := lp_ex (fun k (g : mj_HI) => mj_den mj_P E (d + 1) 90 2 [.ref 189, .int (nI W), .ref 26, .int (nI k), .float 0, .float 0, .float 0] [] (mj_hw w c g hl)) (fun k g => (∀ j, j < k → g 190 j = nI (W &&& 2 ^ j)) ∧ ∀ a k, a ≠ 190 → g a k = hi a k) 10 (fun k g hk hI => ?_) hi ⟨fun j hj => absurd hj (by omega), fun _ _ _ => rfl⟩
  · obtain ⟨g0, e0, g01, g02⟩ := key1
    -- rounds
    have key2 := lp_ex (fun r (s : Value × Value × Value × mj_HI) => mj_den mj_P E (d + 1) 90 27 [.ref 189, .int (nI W), .ref 26, .int (nI r), s.1, s.2.1, s.2.2.1] [] (mj_hw w c s.2.2.2 hl)) (fun r s => (∃ v : Nat → Nat, (∀ k, k < 10 → s.2.2.2 190 k = nI (v k)) ∧ (∀ k, k < 10 → ∀ j, (v k).testBit j = true → W.testBit k = true ∧ (wk_I f t p W 10 (2 ^ k)).testBit j = true) ∧ (∀ k, k < 10 → W.testBit k = true → ∀ j, (wk_I f t p W r (2 ^ k)).testBit j = true → (v k).testBit j = true)) ∧ ∀ a k, a ≠ 190 → s.2.2.2 a k = hi a k) 10 (fun r s hr hI => ?_) (.float 0, .float 0, .float 0, g0) ⟨⟨fun k => W &&& 2 ^ k, g01, fun k hk j hj => ?_, fun k hk hWk j hj => ?_⟩, g02⟩
    · obtain ⟨⟨u4, u5, u6, g⟩, e1, ⟨v, v1, v2, v3⟩, g2⟩ := key2
      simp only at v1 g2
      refine ⟨g, ?_, fun k hk => ?_, g2⟩
      · rw [xg90, g90_0]
        refine Eq.trans e0 ?_
        show mj_den mj_P E (d + 1) 90 2 [.ref 189, .int (nI W), .ref 26, .int (nI 10), .float 0, .float 0, .float 0] [] (mj_hw w c g0 hl) = _
        rw [g90_2, if_pos (by decide), g90_25]
        refine Eq.trans e1 ?_
        show mj_den mj_P E (d + 1) 90 27 [.ref 189, .int (nI W), .ref 26, .int (nI 10), u4, u5, u6] [] (mj_hw w c g hl) = _
        rw [g90_27, if_pos (by decide), g90_128]
      · rw [v1 k hk]
        congr 1
        apply Nat.eq_of_testBit_eq
        intro j
        rw [Bool.eq_iff_iff]
        unfold wk_D
        by_cases hWk : W.testBit k = true
        · rw [if_pos hWk]; exact ⟨fun h => (v2 k hk j h).2, fun h => v3 k hk hWk j h⟩
        · rw [if_neg hWk, Nat.zero_testBit]
          exact ⟨fun h => absurd (v2 k hk j h).1 hWk, fun h => by cases h⟩
    · obtain ⟨u4, u5, u6, g⟩ := s
      obtain ⟨⟨v, v1, v2, v3⟩, g2⟩ := hI
      simp only at v1 v2 v3 g2
      have key3 := lp_ex (fun i (s : Value × Value × mj_HI) => mj_den mj_P E (d + 1) 90 36 [.ref 189, .int (nI W), .ref 26, .int (nI r), .int (nI i), s.1, s.2.1] [] (mj_hw w c s.2.2 hl)) (fun i s => (∃ v : Nat → Nat, (∀ k, k < 10 → s.2.2 190 k = nI (v k)) ∧ (∀ k, k < 10 → ∀ j, (v k).testBit j = true → W.testBit k = true ∧ (wk_I f t p W 10 (2 ^ k)).testBit j = true) ∧ (∀ k, k < 10 → W.testBit k = true → ∀ j, (wk_I f t p W r (2 ^ k)).testBit j = true → (v k).testBit j = true) ∧ (∀ k, k < i → W.testBit (f k) = true → W.testBit (t k) = true → ∀ j, (wk_I f t p W r (2 ^ t k)).testBit j = true → (v (f k)).testBit j = true)) ∧ ∀ a k, a ≠ 190 → s.2.2 a k = hi a k) p (fun i s hip hI => ?_) (u5, u6, g) ⟨⟨v, v1, v2, v3, fun k hk => absurd hk (by omega)⟩, g2⟩
      · obtain ⟨⟨w5, w6, g'⟩, e2, ⟨v', v1', v2', v3', v4'⟩, g2'⟩ := key3
        simp only at v1' g2'
        refine ⟨(.int (nI p), w5, w6, g'), ?_, ⟨v', v1', v2', fun k hk hWk j hj => ?_⟩, g2'⟩
        · show mj_den mj_P E (d + 1) 90 27 [.ref 189, .int (nI W), .ref 26, .int (nI r), u4, u5, u6] [] (mj_hw w c g hl) = mj_den mj_P E (d + 1) 90 27 [.ref 189, .int (nI W), .ref 26, .int (nI (r + 1)), .int (nI p), w5, w6] [] (mj_hw w c g' hl)
          rw [g90_27, if_neg (by rw [nl_10, mj_nIle (by omega) (by omega)]; omega)]
          refine Eq.trans e2 ?_
          show mj_den mj_P E (d + 1) 90 36 [.ref 189, .int (nI W), .ref 26, .int (nI r), .int (nI p), w5, w6] [] (mj_hw w c g' hl) = _
          rw [g90_36, g2' 26 0 (by omega), h0, if_pos (Int32.le_refl _), g90_122, mj_nIs]
        · rcases wk_next hj with h | ⟨i, i1, i2, i3, i4⟩
          · exact v3' k hk hWk j h
          · subst i2; exact v4' i i1 hWk i3 j i4
      · obtain ⟨w5, w6, g'⟩ := s
        obtain ⟨⟨v', v1', v2', v3', v4'⟩, g2'⟩ := hI
        simp only at v1' v2' v3' v4' g2'
        obtain ⟨f1, f2, f3, f4⟩ := hf i hip
        have hfi : (0 : Int32) ≤ nI (f i) ∧ nI (f i) ≤ nI 9 := ⟨by rw [mj_nI0 (by omega)]; trivial, by rw [mj_nIle (by omega) (by omega)]; omega⟩
        have hti : (0 : Int32) ≤ nI (t i) ∧ nI (t i) ≤ nI 9 := ⟨by rw [mj_nI0 (by omega)]; trivial, by rw [mj_nIle (by omega) (by omega)]; omega⟩
        have q0 : g' 26 0 = nI p := by rw [g2' _ _ (by omega)]; exact h0
        have q1 : g' 28 i = nI (f i) := by rw [g2' _ _ (by omega)]; exact f1
        have q2 : g' 29 i = nI (t i) := by rw [g2' _ _ (by omega)]; exact f2
        have q3 := v1' (f i) f3
        have q4 := v1' (t i) f4
        by_cases hWf : W.testBit (f i) = true
        · refine ⟨(.int (nI (f i)), .int (nI (t i)), mj_u g' 190 (f i) (nI (v' (f i) ||| v' (t i)))), ?_, ⟨fun k => if k = f i then v' (f i) ||| v' (t i) else v' k, fun k hk => ?_, fun k hk j hj => ?_, fun k hk hWk j hj => ?_, fun k hk h1 h2 j hj => ?_⟩, fun a k ha => by show mj_u g' 190 _ _ a k = _; rw [mj_u_pt (by omega)]; exact g2' a k ha⟩
          · show mj_den mj_P E (d + 1) 90 36 [.ref 189, .int (nI W), .ref 26, .int (nI r), .int (nI i), w5, w6] [] (mj_hw w c g' hl) = mj_den mj_P E (d + 1) 90 36 [.ref 189, .int (nI W), .ref 26, .int (nI r), .int (nI (i + 1)), .int (nI (f i)), .int (nI (t i))] [] (mj_hw w c (mj_u g' 190 (f i) (nI (v' (f i) ||| v' (t i)))) hl)
            rw [g90_36, q0]
            simp (disch := omega) only [↓reduceIte, Bool.false_eq_true, eq_self, mj_10, mj_01, mj_n10, mj_0n1, mj_1n1, mj_n11, mj_bi_some, mj_bv_some, mj_bj_some, mj_br_some, mj_r0, mj_r1, mj_q0, mj_q1, mj_b01, mj_q2, if_true, if_false, mj_it, mj_if, true_and, and_true, false_and, and_false, not_true_eq_false, not_false_eq_true, true_or, or_true, false_or, or_false, mj_nIle, mj_nIlt, mj_nIeq, mj_nI0, mj_nIc, mj_nIadd, mj_nIs, mj_ez, mj_ze, mj_eo, mj_ltz, mj_lez, mj_zlt, mj_olt, mj_lto, mj_leo, mj_ole, mj_nIn, mj_nnI, nl_2, nl_3, nl_4, nl_5, nl_6, nl_7, nl_8, nl_9, nl_10, nl_11, nl_12, nl_13, nl_14, nl_15, nl_16, nl_17, nl_18, nl_19, nl_20, nl_21, nl_22, nl_23, nl_24, nl_25, nl_26, nl_27, nl_28, nl_29, nl_30, nl_32, nl_33, nl_34, nl_35, nl_36, nl_37, nl_38, nl_39, nl_40, nl_41, nl_42, nl_43, nl_44, nl_45, nl_46, nl_47, nl_48, nl_49, nl_50, nl_51, nl_52, nl_53, nl_54, nl_55, nl_56, nl_57, nl_58, nl_59, nl_60, nl_61, nl_62, nl_64, nl_65, nl_66, nl_67, nl_68, nl_69, nl_92, nl_97, nl_99, nl_100, nl_122, nl_127, nl_128, nl_131, nl_132, nl_150, nl_200, nl_255, nl_256, nl_300, nl_342, nl_380, nl_381, nl_400, nl_401, nl_420, nl_500, nl_600, nl_800, nl_999, nl_1000, nl_1023, nl_1024, nl_1200, nl_2048, nl_2100, nl_4096, nl_9999, nl_10000, nl_10240, nl_999999, nl_1000000, if_pos, if_neg, q1, q2, s_within, hfi, hti, s_hX, hWf, g90_77, g90_87, g90_96, g90_116, q3, q4, bx_or]
          · show mj_u g' 190 _ _ 190 k = nI (if k = f i then v' (f i) ||| v' (t i) else v' k)
            by_cases hkf : k = f i
            · subst hkf; rw [mj_u_eq, if_pos rfl]
            · rw [mj_u_pt (by omega), if_neg hkf]; exact v1' k hk
          · have hj : (if k = f i then v' (f i) ||| v' (t i) else v' k).testBit j = true := hj
            by_cases hkf : k = f i
            · subst hkf
              rw [if_pos rfl, Nat.testBit_or, Bool.or_eq_true] at hj
              refine ⟨hWf, ?_⟩
              rcases hj with hj | hj
              · exact (v2' _ hk j hj).2
              · obtain ⟨z1, z2⟩ := v2' (t i) f4 j hj
                have hcl := wk_closed (f := f) (t := t) (p := p) (W := W) (s := 2 ^ f i) hW10 (Nat.pow_lt_pow_right (by omega) f3)
                refine wk_min hcl 10 (2 ^ t i) (fun j' hj' => ?_) j z2
                rw [Nat.testBit_two_pow] at hj'
                have := of_decide_eq_true hj'
                subst this
                rw [← hcl]
                exact (wk_T_bit _ _ _ _ _ _).mpr (Or.inr ⟨⟨i, hip, wk_I_sub _ _ _ _ _ _ _ (by rw [Nat.testBit_two_pow]; exact decide_eq_true rfl), rfl⟩, z1⟩)
            · rw [if_neg hkf] at hj; exact v2' k hk j hj
          · show (if k = f i then v' (f i) ||| v' (t i) else v' k).testBit j = true
            by_cases hkf : k = f i
            · subst hkf; rw [if_pos rfl, Nat.testBit_or, v3' _ hk hWk j hj]; rfl
            · rw [if_neg hkf]; exact v3' k hk hWk j hj
          · show (if f k = f i then v' (f i) ||| v' (t i) else v' (f k)).testBit j = true
            by_cases hki : k = i
            · subst hki
              rw [if_pos rfl, Nat.testBit_or, v3' _ f4 h2 j hj, Bool.or_true]
            · have h3 := v4' k (by omega) h1 h2 j hj
              by_cases hkf : f k = f i
              · rw [if_pos hkf, Nat.testBit_or, ← hkf, h3]; rfl
              · rw [if_neg hkf]; exact h3
        · refine ⟨(.int (nI (f i)), .int (nI (t i)), g'), ?_, ⟨v', v1', v2', v3', fun k hk h1 h2 j hj => ?_⟩, g2'⟩
          · show mj_den mj_P E (d + 1) 90 36 [.ref 189, .int (nI W), .ref 26, .int (nI r), .int (nI i), w5, w6] [] (mj_hw w c g' hl) = mj_den mj_P E (d + 1) 90 36 [.ref 189, .int (nI W), .ref 26, .int (nI r), .int (nI (i + 1)), .int (nI (f i)), .int (nI (t i))] [] (mj_hw w c g' hl)
            rw [g90_36, q0]
            simp (disch := omega) only [↓reduceIte, Bool.false_eq_true, eq_self, mj_10, mj_01, mj_n10, mj_0n1, mj_1n1, mj_n11, mj_bi_some, mj_bv_some, mj_bj_some, mj_br_some, mj_r0, mj_r1, mj_q0, mj_q1, mj_b01, mj_q2, if_true, if_false, mj_it, mj_if, true_and, and_true, false_and, and_false, not_true_eq_false, not_false_eq_true, true_or, or_true, false_or, or_false, mj_nIle, mj_nIlt, mj_nIeq, mj_nI0, mj_nIc, mj_nIadd, mj_nIs, mj_ez, mj_ze, mj_eo, mj_ltz, mj_lez, mj_zlt, mj_olt, mj_lto, mj_leo, mj_ole, mj_nIn, mj_nnI, nl_2, nl_3, nl_4, nl_5, nl_6, nl_7, nl_8, nl_9, nl_10, nl_11, nl_12, nl_13, nl_14, nl_15, nl_16, nl_17, nl_18, nl_19, nl_20, nl_21, nl_22, nl_23, nl_24, nl_25, nl_26, nl_27, nl_28, nl_29, nl_30, nl_32, nl_33, nl_34, nl_35, nl_36, nl_37, nl_38, nl_39, nl_40, nl_41, nl_42, nl_43, nl_44, nl_45, nl_46, nl_47, nl_48, nl_49, nl_50, nl_51, nl_52, nl_53, nl_54, nl_55, nl_56, nl_57, nl_58, nl_59, nl_60, nl_61, nl_62, nl_64, nl_65, nl_66, nl_67, nl_68, nl_69, nl_92, nl_97, nl_99, nl_100, nl_122, nl_127, nl_128, nl_131, nl_132, nl_150, nl_200, nl_255, nl_256, nl_300, nl_342, nl_380, nl_381, nl_400, nl_401, nl_420, nl_500, nl_600, nl_800, nl_999, nl_1000, nl_1023, nl_1024, nl_1200, nl_2048, nl_2100, nl_4096, nl_9999, nl_10000, nl_10240, nl_999999, nl_1000000, if_pos, if_neg, q1, q2, s_within, hfi, hti, s_hX, hWf, g90_77, g90_87, g90_96, g90_116]
          · by_cases hki : k = i
            · subst hki; exact absurd h1 hWf
            · exact v4' k (by omega) h1 h2 j hj
    · have hj : (W &&& 2 ^ k).testBit j = true := hj
      rw [Nat.testBit_and, Bool.and_eq_true, Nat.testBit_two_pow] at hj
      have := of_decide_eq_true hj.2
      subst this
      exact ⟨hj.1, wk_I_sub _ _ _ _ _ _ _ (by rw [Nat.testBit_two_pow]; exact decide_eq_true rfl)⟩
    · have hj : (2 ^ k).testBit j = true := hj
      show (W &&& 2 ^ k).testBit j = true
      have h2 := hj
      rw [Nat.testBit_two_pow] at h2
      have := of_decide_eq_true h2
      subst this
      rw [Nat.testBit_and, hWk, hj]; rfl
  · obtain ⟨g1, g2⟩ := hI
    refine ⟨mj_u g 190 k (nI (W &&& 2 ^ k)), ?_, fun j hj => ?_, fun a j ha => by rw [mj_u_pt (by omega)]; exact g2 a j ha⟩
    · show mj_den mj_P E (d + 1) 90 2 [.ref 189, .int (nI W), .ref 26, .int (nI k), .float 0, .float 0, .float 0] [] (mj_hw w c g hl) = mj_den mj_P E (d + 1) 90 2 [.ref 189, .int (nI W), .ref 26, .int (nI (k + 1)), .float 0, .float 0, .float 0] [] (mj_hw w c (mj_u g 190 k (nI (W &&& 2 ^ k))) hl)
      rw [g90_2]
      simp (disch := omega) only [↓reduceIte, Bool.false_eq_true, eq_self, mj_10, mj_01, mj_n10, mj_0n1, mj_1n1, mj_n11, mj_bi_some, mj_bv_some, mj_bj_some, mj_br_some, mj_r0, mj_r1, mj_q0, mj_q1, mj_b01, mj_q2, if_true, if_false, mj_it, mj_if, true_and, and_true, false_and, and_false, not_true_eq_false, not_false_eq_true, true_or, or_true, false_or, or_false, mj_nIle, mj_nIlt, mj_nIeq, mj_nI0, mj_nIc, mj_nIadd, mj_nIs, mj_ez, mj_ze, mj_eo, mj_ltz, mj_lez, mj_zlt, mj_olt, mj_lto, mj_leo, mj_ole, mj_nIn, mj_nnI, nl_2, nl_3, nl_4, nl_5, nl_6, nl_7, nl_8, nl_9, nl_10, nl_11, nl_12, nl_13, nl_14, nl_15, nl_16, nl_17, nl_18, nl_19, nl_20, nl_21, nl_22, nl_23, nl_24, nl_25, nl_26, nl_27, nl_28, nl_29, nl_30, nl_32, nl_33, nl_34, nl_35, nl_36, nl_37, nl_38, nl_39, nl_40, nl_41, nl_42, nl_43, nl_44, nl_45, nl_46, nl_47, nl_48, nl_49, nl_50, nl_51, nl_52, nl_53, nl_54, nl_55, nl_56, nl_57, nl_58, nl_59, nl_60, nl_61, nl_62, nl_64, nl_65, nl_66, nl_67, nl_68, nl_69, nl_92, nl_97, nl_99, nl_100, nl_122, nl_127, nl_128, nl_131, nl_132, nl_150, nl_200, nl_255, nl_256, nl_300, nl_342, nl_380, nl_381, nl_400, nl_401, nl_420, nl_500, nl_600, nl_800, nl_999, nl_1000, nl_1023, nl_1024, nl_1200, nl_2048, nl_2100, nl_4096, nl_9999, nl_10000, nl_10240, nl_999999, nl_1000000, if_pos, if_neg, bx_one, bx_and]
    · by_cases hjk : j = k
      · subst hjk; rw [mj_u_eq]
      · rw [mj_u_pt (by omega)]; exact g1 j (by omega)
theorem s_dragBy {f t : Nat → Nat} {p W n s : Nat} (hn : n ≤ 10) (hW : W < 1024) (hs : s < 1024) (h0 : hi 205 6 = nI n) (hf : ∀ i, i < p → f i < n ∧ t i < 10) (hM : ∀ k, k < 10 → hi 225 k = nI (wv_pn f t (2 ^ k) p)) : mj_dc mj_P E (d + 2) 239 [.ref 205, .int (nI s), .int (nI W)] (mj_hw w c hi hl) = some (some (.int (nI (wk_I f t p W 10 s))), mj_hw w c hi hl) := by
  have hlt : ∀ k, wk_I f t p W k s < 1024 := fun k => wk_I_lt (b := 10) hW k s hs
  obtain ⟨K, k1, k2, k3⟩ := wk_stop (f := f) (t := t) (p := p) (W := W) (s := s) hW hs
  -- one time through
  have hT : ∀ a, a < 1024 → a ||| wc_u (fun k => wv_pn f t (2 ^ k) p &&& W) a n = wk_T f t p W a := by
    intro a ha
    apply Nat.eq_of_testBit_eq
    intro j
    rw [Bool.eq_iff_iff, Nat.testBit_or, Bool.or_eq_true, wk_T_bit, wc_u_bit]
    constructor
    · rintro (h | ⟨k, h1, h2, h3⟩)
      · exact Or.inl h
      · rw [Nat.testBit_and, Bool.and_eq_true, wv_pn_bit] at h3
        obtain ⟨⟨i, i1, i2, i3⟩, i4⟩ := h3
        rw [Nat.testBit_two_pow] at i2
        have := of_decide_eq_true i2
        subst this
        exact Or.inr ⟨⟨i, i1, h2, i3⟩, i4⟩
    · rintro (h | ⟨⟨i, i1, i2, i3⟩, i4⟩)
      · exact Or.inl h
      · refine Or.inr ⟨f i, (hf i i1).1, i2, ?_⟩
        show (wv_pn f t (2 ^ f i) p &&& W).testBit j = true
        rw [Nat.testBit_and, i4, (wv_pn_bit _ _ _ _ _).mpr ⟨i, i1, by rw [Nat.testBit_two_pow]; exact decide_eq_true rfl, i3⟩]; rfl
  have hin : ∀ a, a < 1024 → ∀ u : Value, ∀ b : Int32, b ≠ nI a → mj_den mj_P E (d + 1) 239 5 [.ref 205, .int (nI s), .int (nI W), .int (nI a), .int b, u] [] (mj_hw w c hi hl) = mj_den mj_P E (d + 1) 239 5 [.ref 205, .int (nI s), .int (nI W), .int (nI (wk_T f t p W a)), .int (nI a), .int (nI n)] [] (mj_hw w c hi hl) := by
    intro a ha u b hb
    rw [g239_5, if_neg hb]
    have e0 : nI a = nI (a ||| wc_u (fun k => wv_pn f t (2 ^ k) p &&& W) a 0) := by rw [show wc_u (fun k => wv_pn f t (2 ^ k) p &&& W) a 0 = 0 from rfl, Nat.or_zero]
    refine Eq.trans (Eq.trans (congrArg (fun z => mj_den mj_P E (d + 1) 239 17 [.ref 205, .int (nI s), .int (nI W), .int z, .int (nI a), .int 0] [] (mj_hw w c hi hl)) e0) (lp_up (fun k => mj_den mj_P E (d + 1) 239 17 [.ref 205, .int (nI s), .int (nI W), .int (nI (a ||| wc_u (fun k => wv_pn f t (2 ^ k) p &&& W) a k)), .int (nI a), .int (nI k)] [] (mj_hw w c hi hl)) n (fun k hk => ?_))) ?_
    · show mj_den mj_P E (d + 1) 239 17 [.ref 205, .int (nI s), .int (nI W), .int (nI (a ||| wc_u (fun k => wv_pn f t (2 ^ k) p &&& W) a k)), .int (nI a), .int (nI k)] [] (mj_hw w c hi hl) = mj_den mj_P E (d + 1) 239 17 [.ref 205, .int (nI s), .int (nI W), .int (nI (a ||| wc_u (fun k => wv_pn f t (2 ^ k) p &&& W) a (k + 1))), .int (nI a), .int (nI (k + 1))] [] (mj_hw w c hi hl)
      have hk2 := hM k (by omega)
      rw [g239_17, h0, wc_u_s]
      by_cases hb2 : a.testBit k = true
      · rw [if_pos hb2, ← Nat.or_assoc]
        simp (disch := omega) only [↓reduceIte, Bool.false_eq_true, eq_self, mj_10, mj_01, mj_n10, mj_0n1, mj_1n1, mj_n11, mj_bi_some, mj_bv_some, mj_bj_some, mj_br_some, mj_r0, mj_r1, mj_q0, mj_q1, mj_b01, mj_q2, if_true, if_false, mj_it, mj_if, true_and, and_true, false_and, and_false, not_true_eq_false, not_false_eq_true, true_or, or_true, false_or, or_false, mj_nIle, mj_nIlt, mj_nIeq, mj_nI0, mj_nIc, mj_nIadd, mj_nIs, mj_ez, mj_ze, mj_eo, mj_ltz, mj_lez, mj_zlt, mj_olt, mj_lto, mj_leo, mj_ole, mj_nIn, mj_nnI, nl_2, nl_3, nl_4, nl_5, nl_6, nl_7, nl_8, nl_9, nl_10, nl_11, nl_12, nl_13, nl_14, nl_15, nl_16, nl_17, nl_18, nl_19, nl_20, nl_21, nl_22, nl_23, nl_24, nl_25, nl_26, nl_27, nl_28, nl_29, nl_30, nl_32, nl_33, nl_34, nl_35, nl_36, nl_37, nl_38, nl_39, nl_40, nl_41, nl_42, nl_43, nl_44, nl_45, nl_46, nl_47, nl_48, nl_49, nl_50, nl_51, nl_52, nl_53, nl_54, nl_55, nl_56, nl_57, nl_58, nl_59, nl_60, nl_61, nl_62, nl_64, nl_65, nl_66, nl_67, nl_68, nl_69, nl_92, nl_97, nl_99, nl_100, nl_122, nl_127, nl_128, nl_131, nl_132, nl_150, nl_200, nl_255, nl_256, nl_300, nl_342, nl_380, nl_381, nl_400, nl_401, nl_420, nl_500, nl_600, nl_800, nl_999, nl_1000, nl_1023, nl_1024, nl_1200, nl_2048, nl_2100, nl_4096, nl_9999, nl_10000, nl_10240, nl_999999, nl_1000000, if_pos, if_neg, s_hM, hb2, g239_34, g239_49, hk2, bx_and, bx_or]
      · simp (disch := omega) only [↓reduceIte, Bool.false_eq_true, eq_self, mj_10, mj_01, mj_n10, mj_0n1, mj_1n1, mj_n11, mj_bi_some, mj_bv_some, mj_bj_some, mj_br_some, mj_r0, mj_r1, mj_q0, mj_q1, mj_b01, mj_q2, if_true, if_false, mj_it, mj_if, true_and, and_true, false_and, and_false, not_true_eq_false, not_false_eq_true, true_or, or_true, false_or, or_false, mj_nIle, mj_nIlt, mj_nIeq, mj_nI0, mj_nIc, mj_nIadd, mj_nIs, mj_ez, mj_ze, mj_eo, mj_ltz, mj_lez, mj_zlt, mj_olt, mj_lto, mj_leo, mj_ole, mj_nIn, mj_nnI, nl_2, nl_3, nl_4, nl_5, nl_6, nl_7, nl_8, nl_9, nl_10, nl_11, nl_12, nl_13, nl_14, nl_15, nl_16, nl_17, nl_18, nl_19, nl_20, nl_21, nl_22, nl_23, nl_24, nl_25, nl_26, nl_27, nl_28, nl_29, nl_30, nl_32, nl_33, nl_34, nl_35, nl_36, nl_37, nl_38, nl_39, nl_40, nl_41, nl_42, nl_43, nl_44, nl_45, nl_46, nl_47, nl_48, nl_49, nl_50, nl_51, nl_52, nl_53, nl_54, nl_55, nl_56, nl_57, nl_58, nl_59, nl_60, nl_61, nl_62, nl_64, nl_65, nl_66, nl_67, nl_68, nl_69, nl_92, nl_97, nl_99, nl_100, nl_122, nl_127, nl_128, nl_131, nl_132, nl_150, nl_200, nl_255, nl_256, nl_300, nl_342, nl_380, nl_381, nl_400, nl_401, nl_420, nl_500, nl_600, nl_800, nl_999, nl_1000, nl_1023, nl_1024, nl_1200, nl_2048, nl_2100, nl_4096, nl_9999, nl_10000, nl_10240, nl_999999, nl_1000000, if_pos, if_neg, s_hM, hb2, g239_34, g239_49, Nat.or_zero]
    · show mj_den mj_P E (d + 1) 239 17 [.ref 205, .int (nI s), .int (nI W), .int (nI (a ||| wc_u (fun k => wv_pn f t (2 ^ k) p &&& W) a n)), .int (nI a), .int (nI n)] [] (mj_hw w c hi hl) = _
      rw [g239_17, h0, if_pos (Int32.le_refl _), g239_55, hT a ha]
  have key := lp_ex (fun k (u : Value) => mj_den mj_P E (d + 1) 239 5 [.ref 205, .int (nI s), .int (nI W), .int (nI (wk_I f t p W k s)), .int (if k = 0 then -1 else nI (wk_I f t p W (k - 1) s)), u] [] (mj_hw w c hi hl)) (fun _ _ => True) (K + 1) (fun k u hk _ => ⟨.int (nI n), ?_, trivial⟩) (.float 0) trivial
  · obtain ⟨u, e, _⟩ := key
    rw [xg239, g239_0]
    refine Eq.trans e ?_
    show mj_den mj_P E (d + 1) 239 5 [.ref 205, .int (nI s), .int (nI W), .int (nI (wk_I f t p W (K + 1) s)), .int (if K + 1 = 0 then -1 else nI (wk_I f t p W (K + 1 - 1) s)), u] [] (mj_hw w c hi hl) = _
    rw [if_neg (by omega), show K + 1 - 1 = K by omega, wk_I_c, k1, g239_5, if_pos rfl, g239_58, k3]
  · show mj_den mj_P E (d + 1) 239 5 [.ref 205, .int (nI s), .int (nI W), .int (nI (wk_I f t p W k s)), .int (if k = 0 then -1 else nI (wk_I f t p W (k - 1) s)), u] [] (mj_hw w c hi hl) = mj_den mj_P E (d + 1) 239 5 [.ref 205, .int (nI s), .int (nI W), .int (nI (wk_I f t p W (k + 1) s)), .int (if k + 1 = 0 then -1 else nI (wk_I f t p W (k + 1 - 1) s)), .int (nI n)] [] (mj_hw w c hi hl)
    rw [if_neg (show ¬ k + 1 = 0 by omega), show k + 1 - 1 = k by omega, wk_I_c]
    refine hin _ (hlt k) u _ ?_
    by_cases hk0 : k = 0
    · rw [if_pos hk0]; intro z; exact (mj_nnI (by have := hlt k; omega)).mp z
    · rw [if_neg hk0]
      have h1 := hlt k
      have h2 := hlt (k - 1)
      intro z
      rw [mj_nIeq (by omega) (by omega)] at z
      have h3 := k2 (k - 1) (by omega)
      rw [← wk_I_c, show k - 1 + 1 = k by omega] at h3
      exact h3 z.symm
end MJ63
theorem iv_pinX2 {n l : Nat} {h m : mj_HI} (q : iv_J n l h m) : ∃ (p : Nat) (f t : Nat → Nat), p ≤ 16 ∧ h 26 0 = nI p ∧ m 205 38 = nI p ∧ (∀ i, i < p → h 28 i = nI (f i) ∧ h 29 i = nI (t i) ∧ f i < n ∧ t i < n ∧ f i ≠ t i) ∧ ∀ k, k < 10 → m 225 k = nI (wv_pn f t (2 ^ k) p) := by
  obtain ⟨p, f, t, p1, p2, p3, p4, p5⟩ := (iv_Jp q).2.2.1
  have n10 := (iv_Jn q).1
  exact ⟨p, f, t, p1, p2, p3, p4, fun k hk => by rw [p5 k hk, wv_pn_one f t k p (fun i hi => by have := (p4 i hi).2.2.2.1; omega)]⟩
theorem cs_clears (a : Int32) : mj_Cs 126 240 [.int a] := by
  intro E d w c hi hl hE hw hI
  obtain ⟨n, l, q⟩ := iv_I_un.mp hI
  obtain ⟨n10, l12, mN, mL⟩ := iv_Jn q
  obtain ⟨⟨a0, a1, a2, a3, a4, a5, a6⟩, _⟩ := iv_JX q
  obtain ⟨p, f, t, p16, p0, _, hf, hM⟩ := iv_pinX2 q
  by_cases ha : 0 ≤ a ∧ a ≤ 1
  · obtain ⟨W, hW⟩ : ∃ W, mj_st (fun k => decide (hi 7 k = 0)) n = W := ⟨_, rfl⟩
    have hW1 : W < 1024 := by rw [← hW]; exact Nat.lt_of_lt_of_le (mj_st_lt _ n) (Nat.pow_le_pow_right (n := 2) (by omega) n10)
    have eA := s_adm (E := E) (d := d + 98) (w := w) (c := c) (hl := hl) n10 a0
    rw [hW] at eA
    obtain ⟨l1, l2, l3, l4⟩ := wk_len_ok W (by omega)
    have l4 := l4 hW1
    obtain ⟨g0, eR, g01, g02⟩ := s_reach (E := E) (d := d + 96) (w := w) (c := c) (hi := hi) (hl := hl) (f := f) (t := t) (p := p) (W := W) p16 hW1 p0 (fun i hi => ⟨(hf i hi).1, (hf i hi).2.1, by have := (hf i hi).2.2.1; omega, by have := (hf i hi).2.2.2.1; omega⟩)
    have hD : ∀ k, wk_D f t p W k < 4096 := fun k => by
      unfold wk_D
      by_cases hk : W.testBit k = true
      · rw [if_pos hk]
        have hk10 : k < 10 := Nat.lt_of_not_le (fun z => by
          rw [Nat.testBit_lt_two_pow (Nat.lt_of_lt_of_le (show W < 2 ^ 10 from hW1) (Nat.pow_le_pow_right (by omega) z))] at hk; cases hk)
        have := wk_I_lt (f := f) (t := t) (p := p) (W := W) (b := 10) hW1 10 (2 ^ k) (Nat.pow_lt_pow_right (by omega) hk10)
        omega
      · rw [if_neg hk]; omega
    obtain ⟨c', g, hl', eF, c4, gf⟩ := s_few (E := E) (d := d + 96) (w := w) (c := c) (hi := g0) (hl := hl) (R := 190) (nR := 10) (W := W) (m := wk_len W) (x := wk_D f t p W) hw.2.2 (fun _ => rfl) (by omega) (by omega) (by omega) (by omega) (by omega) (fun i hi => ⟨g01 i (by omega), hD i⟩)
    obtain ⟨F, F1, F2, F3⟩ := wk_same (f := f) (t := t) (p := p) (W := W) (m := wk_len W) (by omega) l2 l3
    rw [F3] at eF
    have gh : ∀ a k, a < 242 → a ≠ 190 → g a k = hi a k := fun a k h1 h2 => by rw [gf a k h1, g02 a k h2]
    have gI : iv_I (mj_u g 205 0 0) (mj_u g 205 0 0) := iv_J_same q (fun a k h => by rw [mj_u_pt (by omega), gh _ _ (by omega) (by omega)]) (fun a k h => by rw [mj_u_pt (by omega), gh _ _ (by omega) (by omega)]) (fun k h => by rw [mj_u_pt (by omega), gh _ _ (by omega) (by omega)])
    have eR2 : mj_dc mj_P E (d + 98) 90 [.ref 189, .int (nI W), .ref 26] (mj_hw w c hi hl) = _ := eR
    have eF2 : mj_dc mj_P E (d + 98) 89 [.ref 189, .int (nI W), .ref 190, .int (nI (wk_len W))] (mj_hw w c g0 hl) = _ := eF
    have mN' : (mj_u g 205 0 0) 205 6 = nI n := by rw [mj_u_pt (by omega), gh _ _ (by omega) (by omega)]; exact mN
    have eP := s_prs (E := E) (d := d + 98) (w := w) (c := c') (hi := mj_u g 205 0 0) (hl := hl') n10 mN'
    have hW3 : mj_st (fun k => decide ((mj_u g 205 0 0) 206 (25 + k) = 0)) n = W := by
      rw [← hW, iv_admS q]
      exact mj_st_congr n (fun k hk => by rw [mj_u_pt (by omega), gh _ _ (by omega) (by omega)])
    rw [hW3] at eP
    have eM : mj_dc mj_P E (d + 100) 240 [.ref 205, .int a] (mj_hw w c' g hl') = mj_den mj_P E (d + 99) 240 76 [.ref 205, .int a, .int (nI W), .int (nI F), .int (nI (W + 1))] [] (mj_hw w c' (mj_u g 205 0 0) hl') := by
      simp (disch := omega) only [e240, q240_0, q240_12, q240_17, q240_21, s_isIn, ↓reduceIte, Bool.false_eq_true, eq_self, mj_10, mj_01, mj_n10, mj_0n1, mj_1n1, mj_n11, mj_bi_some, mj_bv_some, mj_bj_some, mj_br_some, mj_r0, mj_r1, mj_q0, mj_q1, mj_b01, mj_q2, if_true, if_false, mj_it, mj_if, true_and, and_true, false_and, and_false, not_true_eq_false, not_false_eq_true, true_or, or_true, false_or, or_false, mj_nIle, mj_nIlt, mj_nIeq, mj_nI0, mj_nIc, mj_nIadd, mj_nIs, mj_ez, mj_ze, mj_eo, mj_ltz, mj_lez, mj_zlt, mj_olt, mj_lto, mj_leo, mj_ole, mj_nIn, mj_nnI, nl_2, nl_3, nl_4, nl_5, nl_6, nl_7, nl_8, nl_9, nl_10, nl_11, nl_12, nl_13, nl_14, nl_15, nl_16, nl_17, nl_18, nl_19, nl_20, nl_21, nl_22, nl_23, nl_24, nl_25, nl_26, nl_27, nl_28, nl_29, nl_30, nl_32, nl_33, nl_34, nl_35, nl_36, nl_37, nl_38, nl_39, nl_40, nl_41, nl_42, nl_43, nl_44, nl_45, nl_46, nl_47, nl_48, nl_49, nl_50, nl_51, nl_52, nl_53, nl_54, nl_55, nl_56, nl_57, nl_58, nl_59, nl_60, nl_61, nl_62, nl_64, nl_65, nl_66, nl_67, nl_68, nl_69, nl_92, nl_97, nl_99, nl_100, nl_122, nl_127, nl_128, nl_131, nl_132, nl_150, nl_200, nl_255, nl_256, nl_300, nl_342, nl_380, nl_381, nl_400, nl_401, nl_420, nl_500, nl_600, nl_800, nl_999, nl_1000, nl_1023, nl_1024, nl_1200, nl_2048, nl_2100, nl_4096, nl_9999, nl_10000, nl_10240, nl_999999, nl_1000000, if_pos, if_neg, ha, eP]
      refine (lp_up (fun s => mj_den mj_P E (d + 99) 240 27 [.ref 205, .int a, .int (nI W), .int (nI (wk_B f t p W s)), .int (nI s)] [] (mj_hw w c' (mj_u g 205 0 0) hl')) (W + 1) (fun s hs => ?_)).trans ?_
      · show mj_den mj_P E (d + 99) 240 27 [.ref 205, .int a, .int (nI W), .int (nI (wk_B f t p W s)), .int (nI s)] [] (mj_hw w c' (mj_u g 205 0 0) hl') = mj_den mj_P E (d + 99) 240 27 [.ref 205, .int a, .int (nI W), .int (nI (wk_B f t p W (s + 1))), .int (nI (s + 1))] [] (mj_hw w c' (mj_u g 205 0 0) hl')
        have eD : mj_dc mj_P E (d + 99) 239 [.ref 205, .int (nI s), .int (nI W)] (mj_hw w c' (mj_u g 205 0 0) hl') = _ := s_dragBy (d := d + 97) (f := f) (t := t) (p := p) (W := W) (s := s) n10 hW1 (by omega) mN' (fun i hi => ⟨(hf i hi).2.2.1, by have := (hf i hi).2.2.2.1; omega⟩) (fun k hk => by rw [mj_u_pt (by omega), gh _ _ (by omega) (by omega)]; exact hM k hk)
        have hB := (wk_B_ok (f := f) (t := t) (p := p) (W := W) (by omega) s (by omega)).1
        have hIl := wk_I_lt (f := f) (t := t) (p := p) (W := W) (b := 10) hW1 10 s (by omega)
        have hdl := mj_df_le s W (n := 12) (by omega)
        have hp1 := mj_pcb s
        have hp2 := mj_pcb (wk_B f t p W s)
        rw [q240_27, wk_B_s, bx_df]
        by_cases h1 : mj_df s W = 0
        · by_cases h2 : mj_pc 12 s < mj_pc 12 (wk_B f t p W s)
          · by_cases h3 : wk_I f t p W 10 s = W
            · simp (disch := omega) only [q240_0, q240_12, q240_17, q240_21, q240_48, q240_53, q240_63, q240_70, q240_85, q240_88, q240_89, ↓reduceIte, Bool.false_eq_true, eq_self, mj_10, mj_01, mj_n10, mj_0n1, mj_1n1, mj_n11, mj_bi_some, mj_bv_some, mj_bj_some, mj_br_some, mj_r0, mj_r1, mj_q0, mj_q1, mj_b01, mj_q2, if_true, if_false, mj_it, mj_if, true_and, and_true, false_and, and_false, not_true_eq_false, not_false_eq_true, true_or, or_true, false_or, or_false, mj_nIle, mj_nIlt, mj_nIeq, mj_nI0, mj_nIc, mj_nIadd, mj_nIs, mj_ez, mj_ze, mj_eo, mj_ltz, mj_lez, mj_zlt, mj_olt, mj_lto, mj_leo, mj_ole, mj_nIn, mj_nnI, nl_2, nl_3, nl_4, nl_5, nl_6, nl_7, nl_8, nl_9, nl_10, nl_11, nl_12, nl_13, nl_14, nl_15, nl_16, nl_17, nl_18, nl_19, nl_20, nl_21, nl_22, nl_23, nl_24, nl_25, nl_26, nl_27, nl_28, nl_29, nl_30, nl_32, nl_33, nl_34, nl_35, nl_36, nl_37, nl_38, nl_39, nl_40, nl_41, nl_42, nl_43, nl_44, nl_45, nl_46, nl_47, nl_48, nl_49, nl_50, nl_51, nl_52, nl_53, nl_54, nl_55, nl_56, nl_57, nl_58, nl_59, nl_60, nl_61, nl_62, nl_64, nl_65, nl_66, nl_67, nl_68, nl_69, nl_92, nl_97, nl_99, nl_100, nl_122, nl_127, nl_128, nl_131, nl_132, nl_150, nl_200, nl_255, nl_256, nl_300, nl_342, nl_380, nl_381, nl_400, nl_401, nl_420, nl_500, nl_600, nl_800, nl_999, nl_1000, nl_1023, nl_1024, nl_1200, nl_2048, nl_2100, nl_4096, nl_9999, nl_10000, nl_10240, nl_999999, nl_1000000, if_pos, if_neg, eD, s_ones, h1, h2, h3, and_self]
            · simp (disch := omega) only [q240_0, q240_12, q240_17, q240_21, q240_48, q240_53, q240_63, q240_70, q240_85, q240_88, q240_89, ↓reduceIte, Bool.false_eq_true, eq_self, mj_10, mj_01, mj_n10, mj_0n1, mj_1n1, mj_n11, mj_bi_some, mj_bv_some, mj_bj_some, mj_br_some, mj_r0, mj_r1, mj_q0, mj_q1, mj_b01, mj_q2, if_true, if_false, mj_it, mj_if, true_and, and_true, false_and, and_false, not_true_eq_false, not_false_eq_true, true_or, or_true, false_or, or_false, mj_nIle, mj_nIlt, mj_nIeq, mj_nI0, mj_nIc, mj_nIadd, mj_nIs, mj_ez, mj_ze, mj_eo, mj_ltz, mj_lez, mj_zlt, mj_olt, mj_lto, mj_leo, mj_ole, mj_nIn, mj_nnI, nl_2, nl_3, nl_4, nl_5, nl_6, nl_7, nl_8, nl_9, nl_10, nl_11, nl_12, nl_13, nl_14, nl_15, nl_16, nl_17, nl_18, nl_19, nl_20, nl_21, nl_22, nl_23, nl_24, nl_25, nl_26, nl_27, nl_28, nl_29, nl_30, nl_32, nl_33, nl_34, nl_35, nl_36, nl_37, nl_38, nl_39, nl_40, nl_41, nl_42, nl_43, nl_44, nl_45, nl_46, nl_47, nl_48, nl_49, nl_50, nl_51, nl_52, nl_53, nl_54, nl_55, nl_56, nl_57, nl_58, nl_59, nl_60, nl_61, nl_62, nl_64, nl_65, nl_66, nl_67, nl_68, nl_69, nl_92, nl_97, nl_99, nl_100, nl_122, nl_127, nl_128, nl_131, nl_132, nl_150, nl_200, nl_255, nl_256, nl_300, nl_342, nl_380, nl_381, nl_400, nl_401, nl_420, nl_500, nl_600, nl_800, nl_999, nl_1000, nl_1023, nl_1024, nl_1200, nl_2048, nl_2100, nl_4096, nl_9999, nl_10000, nl_10240, nl_999999, nl_1000000, if_pos, if_neg, eD, s_ones, h1, h2, h3, and_self]
          · simp (disch := omega) only [q240_0, q240_12, q240_17, q240_21, q240_48, q240_53, q240_63, q240_70, q240_85, q240_88, q240_89, ↓reduceIte, Bool.false_eq_true, eq_self, mj_10, mj_01, mj_n10, mj_0n1, mj_1n1, mj_n11, mj_bi_some, mj_bv_some, mj_bj_some, mj_br_some, mj_r0, mj_r1, mj_q0, mj_q1, mj_b01, mj_q2, if_true, if_false, mj_it, mj_if, true_and, and_true, false_and, and_false, not_true_eq_false, not_false_eq_true, true_or, or_true, false_or, or_false, mj_nIle, mj_nIlt, mj_nIeq, mj_nI0, mj_nIc, mj_nIadd, mj_nIs, mj_ez, mj_ze, mj_eo, mj_ltz, mj_lez, mj_zlt, mj_olt, mj_lto, mj_leo, mj_ole, mj_nIn, mj_nnI, nl_2, nl_3, nl_4, nl_5, nl_6, nl_7, nl_8, nl_9, nl_10, nl_11, nl_12, nl_13, nl_14, nl_15, nl_16, nl_17, nl_18, nl_19, nl_20, nl_21, nl_22, nl_23, nl_24, nl_25, nl_26, nl_27, nl_28, nl_29, nl_30, nl_32, nl_33, nl_34, nl_35, nl_36, nl_37, nl_38, nl_39, nl_40, nl_41, nl_42, nl_43, nl_44, nl_45, nl_46, nl_47, nl_48, nl_49, nl_50, nl_51, nl_52, nl_53, nl_54, nl_55, nl_56, nl_57, nl_58, nl_59, nl_60, nl_61, nl_62, nl_64, nl_65, nl_66, nl_67, nl_68, nl_69, nl_92, nl_97, nl_99, nl_100, nl_122, nl_127, nl_128, nl_131, nl_132, nl_150, nl_200, nl_255, nl_256, nl_300, nl_342, nl_380, nl_381, nl_400, nl_401, nl_420, nl_500, nl_600, nl_800, nl_999, nl_1000, nl_1023, nl_1024, nl_1200, nl_2048, nl_2100, nl_4096, nl_9999, nl_10000, nl_10240, nl_999999, nl_1000000, if_pos, if_neg, eD, s_ones, h1, h2, and_self]
        · simp (disch := omega) only [q240_0, q240_12, q240_17, q240_21, q240_48, q240_53, q240_63, q240_70, q240_85, q240_88, q240_89, ↓reduceIte, Bool.false_eq_true, eq_self, mj_10, mj_01, mj_n10, mj_0n1, mj_1n1, mj_n11, mj_bi_some, mj_bv_some, mj_bj_some, mj_br_some, mj_r0, mj_r1, mj_q0, mj_q1, mj_b01, mj_q2, if_true, if_false, mj_it, mj_if, true_and, and_true, false_and, and_false, not_true_eq_false, not_false_eq_true, true_or, or_true, false_or, or_false, mj_nIle, mj_nIlt, mj_nIeq, mj_nI0, mj_nIc, mj_nIadd, mj_nIs, mj_ez, mj_ze, mj_eo, mj_ltz, mj_lez, mj_zlt, mj_olt, mj_lto, mj_leo, mj_ole, mj_nIn, mj_nnI, nl_2, nl_3, nl_4, nl_5, nl_6, nl_7, nl_8, nl_9, nl_10, nl_11, nl_12, nl_13, nl_14, nl_15, nl_16, nl_17, nl_18, nl_19, nl_20, nl_21, nl_22, nl_23, nl_24, nl_25, nl_26, nl_27, nl_28, nl_29, nl_30, nl_32, nl_33, nl_34, nl_35, nl_36, nl_37, nl_38, nl_39, nl_40, nl_41, nl_42, nl_43, nl_44, nl_45, nl_46, nl_47, nl_48, nl_49, nl_50, nl_51, nl_52, nl_53, nl_54, nl_55, nl_56, nl_57, nl_58, nl_59, nl_60, nl_61, nl_62, nl_64, nl_65, nl_66, nl_67, nl_68, nl_69, nl_92, nl_97, nl_99, nl_100, nl_122, nl_127, nl_128, nl_131, nl_132, nl_150, nl_200, nl_255, nl_256, nl_300, nl_342, nl_380, nl_381, nl_400, nl_401, nl_420, nl_500, nl_600, nl_800, nl_999, nl_1000, nl_1023, nl_1024, nl_1200, nl_2048, nl_2100, nl_4096, nl_9999, nl_10000, nl_10240, nl_999999, nl_1000000, if_pos, if_neg, eD, s_ones, h1, and_self]
      · show mj_den mj_P E (d + 99) 240 27 [.ref 205, .int a, .int (nI W), .int (nI (wk_B f t p W (W + 1))), .int (nI (W + 1))] [] (mj_hw w c' (mj_u g 205 0 0) hl') = _
        rw [q240_27, if_pos (by rw [mj_nIlt (by omega) (by omega)]; omega), F2]
    have eL : mj_dc mj_P E (d + 98) 291 [.int (nI W)] (mj_hw w c g0 hl) = _ := s_lzE (d := d + 97) (nI W)
    have h01 : a = 0 ∨ a = 1 := by
      obtain ⟨A, hA, rfl⟩ := mj_ofn ha.1
      have h3 := ha.2
      rw [mj_leo hA] at h3
      have : A = 0 ∨ A = 1 := by omega
      rcases this with rfl | rfl
      · exact Or.inl rfl
      · exact Or.inr rfl
    have hX : mj_dc mj_P E (d + 99) 87 [.ref 189, .int (nI W), .ref 26] (mj_hw w c hi hl) = some (some (.int (nI F)), mj_hw w c' g hl') := by
      simp (disch := omega) only [q87_0, q87_6, q87_18, q87_22, e87, ↓reduceIte, Bool.false_eq_true, eq_self, mj_10, mj_01, mj_n10, mj_0n1, mj_1n1, mj_n11, mj_bi_some, mj_bv_some, mj_bj_some, mj_br_some, mj_r0, mj_r1, mj_q0, mj_q1, mj_b01, mj_q2, if_true, if_false, mj_it, mj_if, true_and, and_true, false_and, and_false, not_true_eq_false, not_false_eq_true, true_or, or_true, false_or, or_false, mj_nIle, mj_nIlt, mj_nIeq, mj_nI0, mj_nIc, mj_nIadd, mj_nIs, mj_ez, mj_ze, mj_eo, mj_ltz, mj_lez, mj_zlt, mj_olt, mj_lto, mj_leo, mj_ole, mj_nIn, mj_nnI, nl_2, nl_3, nl_4, nl_5, nl_6, nl_7, nl_8, nl_9, nl_10, nl_11, nl_12, nl_13, nl_14, nl_15, nl_16, nl_17, nl_18, nl_19, nl_20, nl_21, nl_22, nl_23, nl_24, nl_25, nl_26, nl_27, nl_28, nl_29, nl_30, nl_32, nl_33, nl_34, nl_35, nl_36, nl_37, nl_38, nl_39, nl_40, nl_41, nl_42, nl_43, nl_44, nl_45, nl_46, nl_47, nl_48, nl_49, nl_50, nl_51, nl_52, nl_53, nl_54, nl_55, nl_56, nl_57, nl_58, nl_59, nl_60, nl_61, nl_62, nl_64, nl_65, nl_66, nl_67, nl_68, nl_69, nl_92, nl_97, nl_99, nl_100, nl_122, nl_127, nl_128, nl_131, nl_132, nl_150, nl_200, nl_255, nl_256, nl_300, nl_342, nl_380, nl_381, nl_400, nl_401, nl_420, nl_500, nl_600, nl_800, nl_999, nl_1000, nl_1023, nl_1024, nl_1200, nl_2048, nl_2100, nl_4096, nl_9999, nl_10000, nl_10240, nl_999999, nl_1000000, if_pos, if_neg, eR2, eL, l1, eF2]
    rcases h01 with rfl | rfl
    · refine ⟨nI (mj_pc 12 F), w, c', g, hl', mj_u g 205 0 0, ?_, ?_, gI, ⟨hw.1, hw.2.1, c4⟩⟩
      · simp (disch := omega) only [q126_0, q126_5, q126_10, q126_24, q126_34, q126_43, q126_46, q126_47, e126, s_within, ↓reduceIte, Bool.false_eq_true, eq_self, mj_10, mj_01, mj_n10, mj_0n1, mj_1n1, mj_n11, mj_bi_some, mj_bv_some, mj_bj_some, mj_br_some, mj_r0, mj_r1, mj_q0, mj_q1, mj_b01, mj_q2, if_true, if_false, mj_it, mj_if, true_and, and_true, false_and, and_false, not_true_eq_false, not_false_eq_true, true_or, or_true, false_or, or_false, mj_nIle, mj_nIlt, mj_nIeq, mj_nI0, mj_nIc, mj_nIadd, mj_nIs, mj_ez, mj_ze, mj_eo, mj_ltz, mj_lez, mj_zlt, mj_olt, mj_lto, mj_leo, mj_ole, mj_nIn, mj_nnI, nl_2, nl_3, nl_4, nl_5, nl_6, nl_7, nl_8, nl_9, nl_10, nl_11, nl_12, nl_13, nl_14, nl_15, nl_16, nl_17, nl_18, nl_19, nl_20, nl_21, nl_22, nl_23, nl_24, nl_25, nl_26, nl_27, nl_28, nl_29, nl_30, nl_32, nl_33, nl_34, nl_35, nl_36, nl_37, nl_38, nl_39, nl_40, nl_41, nl_42, nl_43, nl_44, nl_45, nl_46, nl_47, nl_48, nl_49, nl_50, nl_51, nl_52, nl_53, nl_54, nl_55, nl_56, nl_57, nl_58, nl_59, nl_60, nl_61, nl_62, nl_64, nl_65, nl_66, nl_67, nl_68, nl_69, nl_92, nl_97, nl_99, nl_100, nl_122, nl_127, nl_128, nl_131, nl_132, nl_150, nl_200, nl_255, nl_256, nl_300, nl_342, nl_380, nl_381, nl_400, nl_401, nl_420, nl_500, nl_600, nl_800, nl_999, nl_1000, nl_1023, nl_1024, nl_1200, nl_2048, nl_2100, nl_4096, nl_9999, nl_10000, nl_10240, nl_999999, nl_1000000, if_pos, if_neg, ha, eA, hX, s_bc]
      · rw [eM]; simp (disch := omega) only [↓reduceIte, Bool.false_eq_true, eq_self, mj_10, mj_01, mj_n10, mj_0n1, mj_1n1, mj_n11, mj_bi_some, mj_bv_some, mj_bj_some, mj_br_some, mj_r0, mj_r1, mj_q0, mj_q1, mj_b01, mj_q2, if_true, if_false, mj_it, mj_if, true_and, and_true, false_and, and_false, not_true_eq_false, not_false_eq_true, true_or, or_true, false_or, or_false, mj_nIle, mj_nIlt, mj_nIeq, mj_nI0, mj_nIc, mj_nIadd, mj_nIs, mj_ez, mj_ze, mj_eo, mj_ltz, mj_lez, mj_zlt, mj_olt, mj_lto, mj_leo, mj_ole, mj_nIn, mj_nnI, nl_2, nl_3, nl_4, nl_5, nl_6, nl_7, nl_8, nl_9, nl_10, nl_11, nl_12, nl_13, nl_14, nl_15, nl_16, nl_17, nl_18, nl_19, nl_20, nl_21, nl_22, nl_23, nl_24, nl_25, nl_26, nl_27, nl_28, nl_29, nl_30, nl_32, nl_33, nl_34, nl_35, nl_36, nl_37, nl_38, nl_39, nl_40, nl_41, nl_42, nl_43, nl_44, nl_45, nl_46, nl_47, nl_48, nl_49, nl_50, nl_51, nl_52, nl_53, nl_54, nl_55, nl_56, nl_57, nl_58, nl_59, nl_60, nl_61, nl_62, nl_64, nl_65, nl_66, nl_67, nl_68, nl_69, nl_92, nl_97, nl_99, nl_100, nl_122, nl_127, nl_128, nl_131, nl_132, nl_150, nl_200, nl_255, nl_256, nl_300, nl_342, nl_380, nl_381, nl_400, nl_401, nl_420, nl_500, nl_600, nl_800, nl_999, nl_1000, nl_1023, nl_1024, nl_1200, nl_2048, nl_2100, nl_4096, nl_9999, nl_10000, nl_10240, nl_999999, nl_1000000, if_pos, if_neg, q240_76, q240_85, q240_88, q240_89, s_ones]
    · refine ⟨nI F, w, c', g, hl', mj_u g 205 0 0, ?_, ?_, gI, ⟨hw.1, hw.2.1, c4⟩⟩
      · simp (disch := omega) only [q126_0, q126_5, q126_10, q126_24, q126_34, q126_43, q126_46, q126_47, e126, s_within, ↓reduceIte, Bool.false_eq_true, eq_self, mj_10, mj_01, mj_n10, mj_0n1, mj_1n1, mj_n11, mj_bi_some, mj_bv_some, mj_bj_some, mj_br_some, mj_r0, mj_r1, mj_q0, mj_q1, mj_b01, mj_q2, if_true, if_false, mj_it, mj_if, true_and, and_true, false_and, and_false, not_true_eq_false, not_false_eq_true, true_or, or_true, false_or, or_false, mj_nIle, mj_nIlt, mj_nIeq, mj_nI0, mj_nIc, mj_nIadd, mj_nIs, mj_ez, mj_ze, mj_eo, mj_ltz, mj_lez, mj_zlt, mj_olt, mj_lto, mj_leo, mj_ole, mj_nIn, mj_nnI, nl_2, nl_3, nl_4, nl_5, nl_6, nl_7, nl_8, nl_9, nl_10, nl_11, nl_12, nl_13, nl_14, nl_15, nl_16, nl_17, nl_18, nl_19, nl_20, nl_21, nl_22, nl_23, nl_24, nl_25, nl_26, nl_27, nl_28, nl_29, nl_30, nl_32, nl_33, nl_34, nl_35, nl_36, nl_37, nl_38, nl_39, nl_40, nl_41, nl_42, nl_43, nl_44, nl_45, nl_46, nl_47, nl_48, nl_49, nl_50, nl_51, nl_52, nl_53, nl_54, nl_55, nl_56, nl_57, nl_58, nl_59, nl_60, nl_61, nl_62, nl_64, nl_65, nl_66, nl_67, nl_68, nl_69, nl_92, nl_97, nl_99, nl_100, nl_122, nl_127, nl_128, nl_131, nl_132, nl_150, nl_200, nl_255, nl_256, nl_300, nl_342, nl_380, nl_381, nl_400, nl_401, nl_420, nl_500, nl_600, nl_800, nl_999, nl_1000, nl_1023, nl_1024, nl_1200, nl_2048, nl_2100, nl_4096, nl_9999, nl_10000, nl_10240, nl_999999, nl_1000000, if_pos, if_neg, ha, eA, hX, s_bc]
      · rw [eM]; simp (disch := omega) only [↓reduceIte, Bool.false_eq_true, eq_self, mj_10, mj_01, mj_n10, mj_0n1, mj_1n1, mj_n11, mj_bi_some, mj_bv_some, mj_bj_some, mj_br_some, mj_r0, mj_r1, mj_q0, mj_q1, mj_b01, mj_q2, if_true, if_false, mj_it, mj_if, true_and, and_true, false_and, and_false, not_true_eq_false, not_false_eq_true, true_or, or_true, false_or, or_false, mj_nIle, mj_nIlt, mj_nIeq, mj_nI0, mj_nIc, mj_nIadd, mj_nIs, mj_ez, mj_ze, mj_eo, mj_ltz, mj_lez, mj_zlt, mj_olt, mj_lto, mj_leo, mj_ole, mj_nIn, mj_nnI, nl_2, nl_3, nl_4, nl_5, nl_6, nl_7, nl_8, nl_9, nl_10, nl_11, nl_12, nl_13, nl_14, nl_15, nl_16, nl_17, nl_18, nl_19, nl_20, nl_21, nl_22, nl_23, nl_24, nl_25, nl_26, nl_27, nl_28, nl_29, nl_30, nl_32, nl_33, nl_34, nl_35, nl_36, nl_37, nl_38, nl_39, nl_40, nl_41, nl_42, nl_43, nl_44, nl_45, nl_46, nl_47, nl_48, nl_49, nl_50, nl_51, nl_52, nl_53, nl_54, nl_55, nl_56, nl_57, nl_58, nl_59, nl_60, nl_61, nl_62, nl_64, nl_65, nl_66, nl_67, nl_68, nl_69, nl_92, nl_97, nl_99, nl_100, nl_122, nl_127, nl_128, nl_131, nl_132, nl_150, nl_200, nl_255, nl_256, nl_300, nl_342, nl_380, nl_381, nl_400, nl_401, nl_420, nl_500, nl_600, nl_800, nl_999, nl_1000, nl_1023, nl_1024, nl_1200, nl_2048, nl_2100, nl_4096, nl_9999, nl_10000, nl_10240, nl_999999, nl_1000000, if_pos, if_neg, q240_76, q240_85, q240_88, q240_89, s_ones]
  · refine ⟨-1, w, c, hi, hl, mj_u hi 205 0 0, ?_, ?_, iv_told q, hw⟩
    · simp (disch := omega) only [q126_0, q126_5, q126_10, q126_24, q126_34, q126_43, q126_46, q126_47, e126, s_within, ↓reduceIte, Bool.false_eq_true, eq_self, mj_10, mj_01, mj_n10, mj_0n1, mj_1n1, mj_n11, mj_bi_some, mj_bv_some, mj_bj_some, mj_br_some, mj_r0, mj_r1, mj_q0, mj_q1, mj_b01, mj_q2, if_true, if_false, mj_it, mj_if, true_and, and_true, false_and, and_false, not_true_eq_false, not_false_eq_true, true_or, or_true, false_or, or_false, mj_nIle, mj_nIlt, mj_nIeq, mj_nI0, mj_nIc, mj_nIadd, mj_nIs, mj_ez, mj_ze, mj_eo, mj_ltz, mj_lez, mj_zlt, mj_olt, mj_lto, mj_leo, mj_ole, mj_nIn, mj_nnI, nl_2, nl_3, nl_4, nl_5, nl_6, nl_7, nl_8, nl_9, nl_10, nl_11, nl_12, nl_13, nl_14, nl_15, nl_16, nl_17, nl_18, nl_19, nl_20, nl_21, nl_22, nl_23, nl_24, nl_25, nl_26, nl_27, nl_28, nl_29, nl_30, nl_32, nl_33, nl_34, nl_35, nl_36, nl_37, nl_38, nl_39, nl_40, nl_41, nl_42, nl_43, nl_44, nl_45, nl_46, nl_47, nl_48, nl_49, nl_50, nl_51, nl_52, nl_53, nl_54, nl_55, nl_56, nl_57, nl_58, nl_59, nl_60, nl_61, nl_62, nl_64, nl_65, nl_66, nl_67, nl_68, nl_69, nl_92, nl_97, nl_99, nl_100, nl_122, nl_127, nl_128, nl_131, nl_132, nl_150, nl_200, nl_255, nl_256, nl_300, nl_342, nl_380, nl_381, nl_400, nl_401, nl_420, nl_500, nl_600, nl_800, nl_999, nl_1000, nl_1023, nl_1024, nl_1200, nl_2048, nl_2100, nl_4096, nl_9999, nl_10000, nl_10240, nl_999999, nl_1000000, if_pos, if_neg, ha]
    · simp (disch := omega) only [e240, q240_0, q240_12, s_isIn, ↓reduceIte, Bool.false_eq_true, eq_self, mj_10, mj_01, mj_n10, mj_0n1, mj_1n1, mj_n11, mj_bi_some, mj_bv_some, mj_bj_some, mj_br_some, mj_r0, mj_r1, mj_q0, mj_q1, mj_b01, mj_q2, if_true, if_false, mj_it, mj_if, true_and, and_true, false_and, and_false, not_true_eq_false, not_false_eq_true, true_or, or_true, false_or, or_false, mj_nIle, mj_nIlt, mj_nIeq, mj_nI0, mj_nIc, mj_nIadd, mj_nIs, mj_ez, mj_ze, mj_eo, mj_ltz, mj_lez, mj_zlt, mj_olt, mj_lto, mj_leo, mj_ole, mj_nIn, mj_nnI, nl_2, nl_3, nl_4, nl_5, nl_6, nl_7, nl_8, nl_9, nl_10, nl_11, nl_12, nl_13, nl_14, nl_15, nl_16, nl_17, nl_18, nl_19, nl_20, nl_21, nl_22, nl_23, nl_24, nl_25, nl_26, nl_27, nl_28, nl_29, nl_30, nl_32, nl_33, nl_34, nl_35, nl_36, nl_37, nl_38, nl_39, nl_40, nl_41, nl_42, nl_43, nl_44, nl_45, nl_46, nl_47, nl_48, nl_49, nl_50, nl_51, nl_52, nl_53, nl_54, nl_55, nl_56, nl_57, nl_58, nl_59, nl_60, nl_61, nl_62, nl_64, nl_65, nl_66, nl_67, nl_68, nl_69, nl_92, nl_97, nl_99, nl_100, nl_122, nl_127, nl_128, nl_131, nl_132, nl_150, nl_200, nl_255, nl_256, nl_300, nl_342, nl_380, nl_381, nl_400, nl_401, nl_420, nl_500, nl_600, nl_800, nl_999, nl_1000, nl_1023, nl_1024, nl_1200, nl_2048, nl_2100, nl_4096, nl_9999, nl_10000, nl_10240, nl_999999, nl_1000000, if_pos, if_neg, ha]
