section MJZ25
variable {E : mj_E} {d d' w w' c : Nat} {hl : Nat → Nat → Int64} {y TY TV BG : Nat → Nat} {t m n l : Nat}
theorem s_clr : ∀ (r j : Nat) (hm : mj_HI), j + r = 10 → ∃ hm' : mj_HI, mj_den mj_P E d 204 2 [.ref 205, .int (nI j)] [] (mj_hw w' c hm hl) = mj_den mj_P E d 204 26 [.ref 205, .int (nI 0)] [] (mj_hw w' c hm' hl) ∧ (∀ a k, ¬ (a = 225 ∧ 10 + j ≤ k) → hm' a k = hm a k) ∧ ∀ z, j ≤ z → z < 10 → hm' 225 (10 + z) = 0 := by
  intro r
  induction r with
  | zero =>
    intro j hm hj
    obtain rfl : j = 10 := by omega
    exact ⟨hm, by rw [q204_2, if_pos (by decide), q204_24]; rfl, fun _ _ _ => rfl, fun z z1 z2 => by omega⟩
  | succ r ih =>
    intro j hm hj
    have n1 : ¬ (10 : Int32) ≤ nI j := by rw [show (10 : Int32) = nI 10 from rfl, mj_nIle (by omega) (by omega)]; omega
    have e10 : (10 : Int32) + nI j = nI (10 + j) := mj_nIadd 10 j
    have n2 : (0 ≤ nI (10 + j) ∧ (nI (10 + j)).toNatClampNeg < 20) := ⟨by rw [mj_nI0 (by omega)]; trivial, by rw [mj_nIc (by omega)]; omega⟩
    obtain ⟨hm', r1, r2, r3⟩ := ih (j + 1) (mj_u hm 225 (10 + j) 0) (by omega)
    refine ⟨hm', by rw [q204_2, if_neg n1, e10, if_pos n2, mj_nIc (by omega), mj_nIs, r1], fun a k z => by rw [r2 a k (by omega), mj_u_pt (by omega)], fun z z1 z2 => ?_⟩
    by_cases hz : z = j
    · rw [hz, r2 _ _ (by omega), mj_u_eq]
    · exact r3 z (by omega) z2
theorem s_pin {v2 v3 : Int32} (hn10 : n ≤ 10) (hG : txG 5 y t m TY TV BG) {i : Nat} {h : mj_HI} (hS : XS m TY TV BG i 0 h) (h0 : h 169 0 = 0) (h7 : h 159 7 = nI n) :
    (∃ f j g, mj_den mj_P E (d + 31) 48 105 [.ref 159, .int 2, .int v2, .int v3, .int 0, .int 0, .float 0] [] (mj_hw w' c h hl) = some (some (.int 0), mj_hw w' c g hl) ∧ FT BG h g f j ∧ ∀ hm, MS 5 y t TY TV BG i 0 h hm → hm 205 6 = nI n → ∃ hm', mj_dc mj_P E (d' + 10) 204 [.ref 205] (mj_hw w' c hm hl) = some (some (.int (-1)), mj_hw w' c hm' hl) ∧ GT BG hm hm' f j) ∨
    (∃ k' g, mj_den mj_P E (d + 31) 48 105 [.ref 159, .int 2, .int v2, .int v3, .int 0, .int 0, .float 0] [] (mj_hw w' c h hl) = some (some (.int 1), mj_hw w' c g hl) ∧ fT h g ∧ k' ≤ 16 ∧ g 169 0 = nI k' ∧ ∀ hm, MS 5 y t TY TV BG i 0 h hm → hm 205 6 = nI n → ∃ hm', mj_dc mj_P E (d' + 10) 204 [.ref 205] (mj_hw w' c hm hl) = some (some (.int (nI k')), mj_hw w' c hm' hl) ∧ QP n k' g hm' ∧ gT hm hm') := by
  have wd : ∀ i L h hm, i ≤ m → MS 5 y t TY TV BG i L h hm → mj_dc mj_P E (d' + 9) 184 [.ref 205, .int 19] (mj_hw w' c hm hl) = some (some (.int (if TY i = 2 ∧ TV i = 0 then 1 else 0)), mj_hw w' c hm hl) := fun i L h hm him q => s_wdM (d := d' + 8) (x := 0) hG him q.2.1 (by decide)
  have key := tx_loop (E := E) (d := d) (w := 5) (w' := w') (c := c) (hl := hl) (bg := 0) (a := 2) (v2 := v2) (v3 := v3) hG (by omega) (fun _ H => mj_dc mj_P E (d + 31) 67 [.ref 159] H) (fun k _ H => mj_den mj_P E (d' + 9) 204 26 [.ref 205, .int (nI k)] [] H) (fun _ => True) (fun k g => g 169 0 = nI k ∧ g 159 7 = nI n) (fun k L g hm => QP n k g hm ∧ hm 205 6 = nI n)
    (fun k u h s g hu e => by
      rcases hu with rfl | ⟨x, rfl⟩
      · rw [q48_155, if_pos (by decide), q48_168_1, if_pos (by decide), q48_180_1, if_neg (fun z => z rfl), e, mj_bi_some, q48_189_1]
      · rw [q48_155_1, if_pos (by decide), q48_168, if_pos (by decide), q48_180, if_neg (fun z => z rfl), e, mj_bi_some, q48_189])
    (fun k g g' e ef q => ⟨by rw [e _ _ (by omega)]; exact q.1, by rw [ef _ _ (by omega) (by omega) (by omega) (by omega)]; exact q.2⟩)
    (fun k L g g' hm e q => by
      obtain ⟨⟨f, u, q1, q2⟩, q3⟩ := q
      exact ⟨⟨f, u, fun i hi => by rw [e 171 _ (by omega), e 172 _ (by omega)]; exact q1 i hi, q2⟩, q3⟩)
    (fun i L k h hS _ hcap hk h2 hb hC => by
      have hv : TV i = 0 := by omega
      have bgn : ∀ hm, MS 5 y t TY TV BG i L h hm → mj_den mj_P E (d' + 9) 204 26 [.ref 205, .int (nI k)] [] (mj_hw w' c hm hl) = mj_bi (mj_dc mj_P E (d' + 9) 203 [.ref 205] (mj_hw w' c hm hl)) (fun x1 h1 => mj_den mj_P E (d' + 9) 204 51 [.ref 205, .int (nI k)] [.int x1] h1) := fun hm q => by
        have k1 := wd i L h hm hS.2.2.1 q
        rw [if_pos ⟨h2, hv⟩] at k1
        rw [q204_26, k1, mj_bi_some, q204_32, if_neg (by decide), if_pos (by rw [show (16 : Int32) = nI 16 from rfl, mj_nIeq (by omega) (by omega)]; omega), q204_47]
      rcases s_pinL (E := E) (d := d) (d' := d') (w' := w') (c := c) (hl := hl) hn10 hG hS hcap hk h2 hv hC.1 hC.2 with ⟨f, j, g, o1, o2, o3⟩ | ⟨j, g, o1, o2, o3, o4, o6, o7⟩
      · refine Or.inl ⟨f, j, g, o1, o2, fun hm u q hq _ => ?_⟩
        obtain ⟨hm', r1, r2⟩ := o3 hm q hq.1 hq.2
        exact ⟨hm', by show mj_den mj_P E (d' + 9) 204 26 _ _ _ = _; rw [bgn hm q, r1, mj_bi_some, q204_51, if_neg (fun z => z rfl)], r2⟩
      · refine Or.inr ⟨j, L, g, o1, o2, ⟨o3, by rw [o2 _ _ (by omega) (by omega) (by omega)]; exact hC.2⟩, o4, o6, fun hm u q hq _ => ⟨fun hc => ?_, fun hc => ?_⟩⟩
        · obtain ⟨hm', r1, r2, r3, r4⟩ := (o7 hm q hq.1 hq.2).1 hc
          refine ⟨hm', u, trivial, ?_, r2, ⟨r3, by rw [r4 _ _ (by omega) (by omega) (by omega) (by omega) (by omega) (by omega) (by omega)]; exact hq.2⟩, r4⟩
          show mj_den mj_P E (d' + 9) 204 26 _ _ _ = mj_den mj_P E (d' + 9) 204 26 _ _ _
          rw [bgn hm q, r1, mj_bi_some, q204_51, if_pos (by decide), q204_57, mj_nIs]
        · obtain ⟨hm', r1, r2⟩ := (o7 hm q hq.1 hq.2).2 hc
          exact ⟨hm', by show mj_den mj_P E (d' + 9) 204 26 _ _ _ = _; rw [bgn hm q, r1, mj_bi_some, q204_51, if_neg (fun z => z rfl)], r2⟩)
    (fun i L k h hm u him q _ hb => by
      have k1 := wd i L h hm him q
      rw [if_neg (by omega)] at k1
      refine ⟨fun h0 => ?_, fun h0 => ?_⟩
      · show mj_den mj_P E (d' + 9) 204 26 _ _ _ = _
        rw [q204_26, k1, mj_bi_some, q204_32, if_pos rfl, q204_64, if_neg (fun z => z ((p_17 q).mpr h0)), q204_80]
      · obtain ⟨hm2, x1, x2⟩ := p_erM (E := E) (d := d' + 8) (w' := w') (c := c) (hl := hl) (f := 1) q
        have x1' : mj_dc mj_P E (d' + 9) 183 [.ref 205, .int 1] (mj_hw w' c hm hl) = some (some (.int (-1)), mj_hw w' c hm2 hl) := x1
        refine ⟨hm2, ?_, FM_GT x2⟩
        show mj_den mj_P E (d' + 9) 204 26 _ _ _ = _
        rw [q204_26, k1, mj_bi_some, q204_32, if_pos rfl, q204_64, if_pos (fun z => h0 ((p_17 q).mp z)), q204_75, x1', mj_bi_some, q204_80])
    (fun i L h hm u him q _ h2 hb => by
      have k1 := wd i L h hm him q
      rw [if_pos ⟨h2, by omega⟩] at k1
      obtain ⟨hm2, x1, x2⟩ := p_erM (E := E) (d := d' + 8) (w' := w') (c := c) (hl := hl) (f := 3) q
      have x1' : mj_dc mj_P E (d' + 9) 183 [.ref 205, .int 3] (mj_hw w' c hm hl) = some (some (.int (-1)), mj_hw w' c hm2 hl) := x1
      refine ⟨hm2, ?_, FM_GT x2⟩
      show mj_den mj_P E (d' + 9) 204 26 _ _ _ = _
      rw [q204_26, k1, mj_bi_some, q204_32, if_neg (by decide), if_neg (fun z => z rfl), x1', mj_bi_some, q204_46])
    16 0 i 0 h (.float 0) rfl (Or.inl rfl) hS (Nat.zero_le _) ⟨h0, h7⟩
  have er : ∀ hm, MS 5 y t TY TV BG i 0 h hm → hm 205 6 = nI n → ∃ hm1, mj_dc mj_P E (d' + 10) 204 [.ref 205] (mj_hw w' c hm hl) = mj_den mj_P E (d' + 9) 204 26 [.ref 205, .int (nI 0)] [] (mj_hw w' c hm1 hl) ∧ MS 5 y t TY TV BG i 0 h hm1 ∧ QP n 0 h hm1 ∧ hm1 205 6 = nI n ∧ gT hm hm1 := fun hm q h6 => by
    obtain ⟨hm1, r1, r2, r3⟩ := s_clr (E := E) (d := d' + 9) (w' := w') (c := c) (hl := hl) 10 0 hm rfl
    refine ⟨hm1, by rw [e204, q204_0]; exact r1, MS_h q (fun a k z => r2 a k (by omega)), ⟨fun _ => 0, fun _ => 0, fun i hi => by omega, fun z hz => by rw [r3 z (by omega) hz]; rfl⟩, by rw [r2 _ _ (by omega)]; exact h6, fun a k z1 z2 z3 z4 z5 z6 z7 => r2 a k (by omega)⟩
  rcases key with ⟨f, j, g, o1, o2, o3⟩ | ⟨k', j, L', g, o1, o2, o3, o4, o5, o6, o7⟩
  · refine Or.inl ⟨f, j, g, o1, o2, fun hm q h6 => ?_⟩
    obtain ⟨hm1, r1, r2, r3, r4, r5⟩ := er hm q h6
    obtain ⟨hm2, s1, s2⟩ := o3 hm1 (.float 0) r2 ⟨r3, r4⟩ trivial
    exact ⟨hm2, by rw [r1]; exact s1, GT_t r5 s2⟩
  · refine Or.inr ⟨k', g, o1, o2, o3, o4.1, fun hm q h6 => ?_⟩
    obtain ⟨hm1, r1, r2, r3, r4, r5⟩ := er hm q h6
    obtain ⟨hm2, s1, s2, s3, s4⟩ := o7 hm1 (.float 0) r2 ⟨r3, r4⟩ trivial
    exact ⟨hm2, by rw [r1]; exact s1, s3.1, gT_t r5 s4⟩
end MJZ25
