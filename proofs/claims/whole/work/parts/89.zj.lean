section MJZ20
variable {E : mj_E} {d d' w w' c : Nat} {hl : Nat → Nat → Int64} {y TY TV BG : Nat → Nat} {t m : Nat}
theorem p_17 {i L : Nat} {g hm : mj_HI} (q : MS w y t TY TV BG i L g hm) : hm 205 17 = 0 ↔ TY i = 0 := by
  rcases q.2.1.2.2 with z | z | z | z | z
  · exact ⟨fun _ => z.1, fun _ => z.2⟩
  · exact ⟨fun h => absurd (z.2.1.symm.trans h) (by decide), fun h => by omega⟩
  · exact ⟨fun h => absurd (z.2.1.symm.trans h) (by decide), fun h => by omega⟩
  · exact ⟨fun h => absurd (z.2.1.symm.trans h) (by decide), fun h => by omega⟩
  · rcases z.2 with y | y
    · exact ⟨fun h => absurd (y.symm.trans h) (by decide), fun h => by omega⟩
    · exact ⟨fun h => absurd (y.1.symm.trans h) (by decide), fun h => by omega⟩
theorem s_152 {a b : Nat} {x : Int32} {h : mj_HI} {n : Nat} (hx : x = nI n) (hn : n < 100000) (ha : a < 100000) (hb : b < 100000) : mj_dc mj_P E (d + 1) 152 [.ref 205, .int x, .int (nI a), .int (nI b)] (mj_hw w' c h hl) = some (some (.int (if a ≤ n ∧ n ≤ b then 1 else 0)), mj_hw w' c h hl) := by
  rw [e152, q152_0, hx]
  by_cases h1 : n < a
  · rw [if_pos (by rw [mj_nIlt (by omega) (by omega)]; exact h1), q152_14, q152_15, if_pos (Or.inl rfl), if_neg (by omega)]
  · rw [if_neg (by rw [mj_nIlt (by omega) (by omega)]; exact h1)]
    by_cases h2 : b < n
    · rw [if_pos (by rw [mj_nIlt (by omega) (by omega)]; exact h2), q152_14, q152_15, if_pos (Or.inl rfl), if_neg (by omega)]
    · rw [if_neg (by rw [mj_nIlt (by omega) (by omega)]; exact h2), q152_15, if_pos (Or.inr rfl), if_pos (by omega)]
theorem s_bgM {i L : Nat} {g hm : mj_HI} (q : MS 3 y t TY TV BG i L g hm) : mj_dc mj_P E (d + 2) 195 [.ref 205] (mj_hw w' c hm hl) = some (some (.int (if TY i = 2 ∧ TV i ≤ 2 then 1 else 0)), mj_hw w' c hm hl) := by
  have no : ∀ v : Int32, hm 205 17 = v → ¬ v = 2 → ¬ TY i = 2 → mj_dc mj_P E (d + 2) 195 [.ref 205] (mj_hw w' c hm hl) = some (some (.int (if TY i = 2 ∧ TV i ≤ 2 then 1 else 0)), mj_hw w' c hm hl) := fun v h1 h2 h3 => by
    rw [if_neg (fun z => h3 z.1), e195, q195_0, h1, if_pos h2, q195_25, q195_26, if_pos (Or.inl rfl)]
  rcases q.2.1.2.2 with z | z | z | z | z
  · exact no _ z.2 (by decide) (by omega)
  · exact no _ z.2.1 (by decide) (by omega)
  · have k := s_152 (E := E) (d := d) (w' := w') (c := c) (hl := hl) (h := hm) (a := 0) (b := 2) (n := TV i) z.2.2.1 (by have := z.2.2.2; have : kN 3 = 17 := rfl; omega) (by omega) (by omega)
    have k' : mj_dc mj_P E (d + 1) 152 [.ref 205, .int (hm 205 18), .int 0, .int 2] (mj_hw w' c hm hl) = some (some (.int (if 0 ≤ TV i ∧ TV i ≤ 2 then 1 else 0)), mj_hw w' c hm hl) := k
    by_cases hb : TV i ≤ 2
    · rw [if_pos ⟨by omega, hb⟩] at k'
      rw [if_pos ⟨z.1, hb⟩, e195, q195_0, if_neg (fun h => h z.2.1), k', mj_bi_some, q195_18, if_neg (by decide), q195_26, if_pos (Or.inr rfl)]
    · rw [if_neg (fun h => hb h.2)] at k'
      rw [if_neg (fun h => hb h.2), e195, q195_0, if_neg (fun h => h z.2.1), k', mj_bi_some, q195_18, if_pos rfl, q195_25, q195_26, if_pos (Or.inl rfl)]
  · exact no _ z.2.1 (by decide) (by omega)
  · rcases z.2 with u | ⟨u1, x, u2, u3, u4⟩
    · exact no _ u (by decide) (by omega)
    · have x3 : ¬ x ≤ 2 := fun hx => u4 x (show x < 17 by omega) rfl
      have k := s_152 (E := E) (d := d) (w' := w') (c := c) (hl := hl) (h := hm) (a := 0) (b := 2) (n := x) u3 (by omega) (by omega) (by omega)
      have k' : mj_dc mj_P E (d + 1) 152 [.ref 205, .int (hm 205 18), .int 0, .int 2] (mj_hw w' c hm hl) = some (some (.int (if 0 ≤ x ∧ x ≤ 2 then 1 else 0)), mj_hw w' c hm hl) := k
      rw [if_neg (fun h => x3 h.2)] at k'
      rw [if_neg (by omega), e195, q195_0, if_neg (fun h => h u1), k', mj_bi_some, q195_18, if_pos rfl, q195_25, q195_26, if_pos (Or.inl rfl)]
/-- the law's lines -/
theorem s_law {v2 v3 : Int32} (hG : txG 3 y t m TY TV BG) {i : Nat} {h : mj_HI} (hS : XS m TY TV BG i 0 h) (h0 : h 160 0 = 0) :
    (∃ f j g, mj_den mj_P E (d + 31) 48 105 [.ref 159, .int 0, .int v2, .int v3, .int 2, .int 0, .float 0] [] (mj_hw w' c h hl) = some (some (.int 0), mj_hw w' c g hl) ∧ FT BG h g f j ∧ ∀ hm, MS 3 y t TY TV BG i 0 h hm → hm 205 29 = 0 → ∃ hm', mj_dc mj_P E (d' + 10) 196 [.ref 205] (mj_hw w' c hm hl) = some (some (.int (-1)), mj_hw w' c hm' hl) ∧ GT BG hm hm' f j) ∨
    (∃ k' j L' g, mj_den mj_P E (d + 31) 48 105 [.ref 159, .int 0, .int v2, .int v3, .int 2, .int 0, .float 0] [] (mj_hw w' c h hl) = some (some (.int 1), mj_hw w' c g hl) ∧ fT h g ∧ k' ≤ 16 ∧ g 160 0 = nI k' ∧ g 160 1 = nI L' ∧ j ≤ m ∧ iv_ph (g 165) L' ≤ j ∧ ∀ hm, MS 3 y t TY TV BG i 0 h hm → hm 205 29 = 0 → ∃ hm', mj_dc mj_P E (d' + 10) 196 [.ref 205] (mj_hw w' c hm hl) = some (some (.int (nI k')), mj_hw w' c hm' hl) ∧ cdr g hm' L' ∧ LR k' L' g hm' ∧ gT hm hm') := by
  obtain ⟨_, t400, mt, _, hnz, hmz, htv⟩ := id hG
  have key := tx_loop (E := E) (d := d) (w := 3) (w' := w') (c := c) (hl := hl) (bg := 2) (a := 0) (v2 := v2) (v3 := v3) hG (by omega) (fun k H => mj_dc mj_P E (d + 31) 61 [.ref 159, .int (nI k)] H) (fun k u H => mj_den mj_P E (d' + 9) 196 2 [.ref 205, .int (nI k), u] [] H) (fun _ => True) (fun k g => g 160 0 = nI k) (fun k L g hm => LR k L g hm)
    (fun k u h s g hu e => by
      rcases hu with rfl | ⟨x, rfl⟩
      · rw [q48_155, if_neg (fun z => z rfl), e, mj_bi_some, q48_165]
      · rw [q48_155_1, if_neg (fun z => z rfl), e, mj_bi_some, q48_165_1])
    (fun k g g' e _ q => by rw [e _ _ (by omega)]; exact q)
    (fun k L g g' hm e q => ⟨q.1, fun i hi => by rw [e 161 _ (by omega), e 162 _ (by omega), e 163 _ (by omega), e 164 _ (by omega)]; exact RW_g (q.2 i hi) (Nat.le_refl _) (fun k _ => e _ _ (by omega))⟩)
    (fun i L k h hS _ hcap hk h2 hb hC => by
      have bgn : ∀ hm u, MS 3 y t TY TV BG i L h hm → mj_den mj_P E (d' + 9) 196 2 [.ref 205, .int (nI k), u] [] (mj_hw w' c hm hl) = mj_den mj_P E (d' + 9) 196 21 [.ref 205, .int (nI k), u] [] (mj_hw w' c hm hl) := fun hm u q => by
        have k1 : mj_dc mj_P E (d' + 9) 195 [.ref 205] (mj_hw w' c hm hl) = _ := s_bgM (d := d' + 7) q
        rw [if_pos ⟨h2, hb⟩] at k1
        rw [g196_2, k1, mj_bi_some, g196_6, if_neg (by decide), if_pos (by rw [show (16 : Int32) = nI 16 from rfl, mj_nIeq (by omega) (by omega)]; omega)]
      rcases s_lawL (E := E) (d := d) (d' := d') (w' := w') (c := c) (hl := hl) hG hS hcap hk h2 with ⟨f, j, g, o1, o2, o3⟩ | ⟨j, L', g, o1, o2, o3, o4, o5, o6, o7⟩
      · refine Or.inl ⟨f, j, g, o1, ⟨o2.1, o2.2⟩, fun hm u q hq _ => ?_⟩
        obtain ⟨hm', r1, r2⟩ := o3 hm u q hq
        exact ⟨hm', by show mj_den mj_P E (d' + 9) 196 2 _ _ _ = _; rw [bgn hm u q, r1], gL_T r2.1, r2.2⟩
      · refine Or.inr ⟨j, L', g, o1, fL_T o2, o3, o4, o6, fun hm u q hq _ => ?_⟩
        obtain ⟨hm', v2, r1, r2, r3, r4⟩ := o7 hm u q hq
        refine ⟨fun hc => ?_, fun hc => ?_⟩
        · have hjlt : j < m := by
            rcases Nat.lt_or_ge j m with z | z
            · exact z
            · have hz : TY j = 0 := by rw [show j = m by have := o4.2.2.1; omega]; exact hmz
              omega
          rw [if_pos hc] at r1
          obtain ⟨hm2, x1, x2, x3, x4⟩ := p_stM (E := E) (d := d' + 5) (w' := w') (c := c) (hl := hl) hG r2 hjlt
          have x1' : mj_dc mj_P E (d' + 9) 182 [.ref 205] (mj_hw w' c hm' hl) = some (none, mj_hw w' c hm2 hl) := x1
          refine ⟨hm2, .int v2, trivial, ?_, x2, ⟨by rw [x4 _ _ (by omega)]; exact r3.1, fun i hi => by rw [x4 217 _ (by omega), x4 218 _ (by omega), x4 219 _ (by omega), x4 220 _ (by omega)]; exact r3.2 i hi⟩, gT_t (gL_T r4) (fS_T x3)⟩
          show mj_den mj_P E (d' + 9) 196 2 _ _ _ = mj_den mj_P E (d' + 9) 196 2 _ _ _
          rw [bgn hm u q, r1, g196_108, if_pos (by decide), g196_117, x1', mj_bv_some, g196_121, mj_nIs]
        · rw [if_neg hc] at r1
          obtain ⟨hm2, x1, x2⟩ := p_erM (E := E) (d := d' + 8) (w' := w') (c := c) (hl := hl) (f := 1) r2
          have x1' : mj_dc mj_P E (d' + 9) 183 [.ref 205, .int 1] (mj_hw w' c hm' hl) = some (some (.int (-1)), mj_hw w' c hm2 hl) := x1
          refine ⟨hm2, ?_, GT_t (gL_T r4) (FM_GT x2)⟩
          show mj_den mj_P E (d' + 9) 196 2 _ _ _ = _
          rw [bgn hm u q, r1, g196_108, if_neg (fun z => z rfl), x1', mj_bi_some, g196_116])
    (fun i L k h hm u him q _ hb => by
      have k1 : mj_dc mj_P E (d' + 9) 195 [.ref 205] (mj_hw w' c hm hl) = _ := s_bgM (d := d' + 7) q
      rw [if_neg hb] at k1
      refine ⟨fun h0 => ?_, fun h0 => ?_⟩
      · show mj_den mj_P E (d' + 9) 196 2 _ _ _ = _
        rw [g196_2, k1, mj_bi_some, g196_6, if_pos rfl, g196_128, if_neg (fun z => z ((p_17 q).mpr h0)), g196_144]
      · obtain ⟨hm2, x1, x2⟩ := p_erM (E := E) (d := d' + 8) (w' := w') (c := c) (hl := hl) (f := 1) q
        have x1' : mj_dc mj_P E (d' + 9) 183 [.ref 205, .int 1] (mj_hw w' c hm hl) = some (some (.int (-1)), mj_hw w' c hm2 hl) := x1
        refine ⟨hm2, ?_, FM_GT x2⟩
        show mj_den mj_P E (d' + 9) 196 2 _ _ _ = _
        rw [g196_2, k1, mj_bi_some, g196_6, if_pos rfl, g196_128, if_pos (fun z => h0 ((p_17 q).mp z)), g196_139, x1', mj_bi_some, g196_144])
    (fun i L h hm u him q _ h2 hb => by
      have k1 : mj_dc mj_P E (d' + 9) 195 [.ref 205] (mj_hw w' c hm hl) = _ := s_bgM (d := d' + 7) q
      rw [if_pos ⟨h2, hb⟩] at k1
      obtain ⟨hm2, x1, x2⟩ := p_erM (E := E) (d := d' + 8) (w' := w') (c := c) (hl := hl) (f := 3) q
      have x1' : mj_dc mj_P E (d' + 9) 183 [.ref 205, .int 3] (mj_hw w' c hm hl) = some (some (.int (-1)), mj_hw w' c hm2 hl) := x1
      refine ⟨hm2, ?_, FM_GT x2⟩
      show mj_den mj_P E (d' + 9) 196 2 _ _ _ = _
      rw [g196_2, k1, mj_bi_some, g196_6, if_neg (by decide), if_neg (fun z => z rfl), x1', mj_bi_some, g196_20])
    16 0 i 0 h (.float 0) rfl (Or.inl rfl) hS (Nat.zero_le _) h0
  have er : ∀ hm, mj_dc mj_P E (d' + 10) 196 [.ref 205] (mj_hw w' c hm hl) = mj_den mj_P E (d' + 9) 196 2 [.ref 205, .int (nI 0), .float 0] [] (mj_hw w' c hm hl) := fun hm => by rw [e196, g196_0]; rfl
  rcases key with ⟨f, j, g, o1, o2, o3⟩ | ⟨k', j, L', g, o1, o2, o3, o4, o5, o6, o7⟩
  · refine Or.inl ⟨f, j, g, o1, o2, fun hm q h29 => ?_⟩
    rw [er]; exact o3 hm (.float 0) q ⟨h29, fun i hi => by omega⟩ trivial
  · refine Or.inr ⟨k', j, L', g, o1, o2, o3, o4, o5.2.2.2, o5.2.2.1, o6, fun hm q h29 => ?_⟩
    rw [er]
    obtain ⟨hm', r1, r2, r3, r4⟩ := o7 hm (.float 0) q ⟨h29, fun i hi => by omega⟩ trivial
    exact ⟨hm', r1, r2.2.2, r3, r4⟩
end MJZ20
