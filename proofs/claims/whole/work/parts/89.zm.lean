section MJZ23
variable {E : mj_E} {d d' w w' c : Nat} {hl : Nat → Nat → Int64} {y TY TV BG : Nat → Nat} {t m : Nat}
theorem s_say {v2 v3 : Int32} (hG : txG 4 y t m TY TV BG) {i : Nat} {h : mj_HI} (hS : XS m TY TV BG i 0 h) (h0 : h 169 0 = 0) :
    (∃ f j g, mj_den mj_P E (d + 31) 48 105 [.ref 159, .int 1, .int v2, .int v3, .int 0, .int 0, .float 0] [] (mj_hw w' c h hl) = some (some (.int 0), mj_hw w' c g hl) ∧ FT BG h g f j ∧ ∀ hm, MS 4 y t TY TV BG i 0 h hm → ∃ hm', mj_dc mj_P E (d' + 10) 202 [.ref 205] (mj_hw w' c hm hl) = some (some (.int (-1)), mj_hw w' c hm' hl) ∧ GT BG hm hm' f j) ∨
    (∃ k' g, mj_den mj_P E (d + 31) 48 105 [.ref 159, .int 1, .int v2, .int v3, .int 0, .int 0, .float 0] [] (mj_hw w' c h hl) = some (some (.int 1), mj_hw w' c g hl) ∧ fT h g ∧ k' ≤ 16 ∧ g 169 0 = nI k' ∧ ∀ hm, MS 4 y t TY TV BG i 0 h hm → ∃ hm', mj_dc mj_P E (d' + 10) 202 [.ref 205] (mj_hw w' c hm hl) = some (some (.int (nI k')), mj_hw w' c hm' hl) ∧ QS k' 0 g hm' ∧ gT hm hm') := by
  have wd : ∀ i L h hm, i ≤ m → MS 4 y t TY TV BG i L h hm → mj_dc mj_P E (d' + 9) 184 [.ref 205, .int 17] (mj_hw w' c hm hl) = some (some (.int (if TY i = 2 ∧ TV i = 0 then 1 else 0)), mj_hw w' c hm hl) := fun i L h hm him q => s_wdM (d := d' + 8) (x := 0) hG him q.2.1 (by decide)
  have key := tx_loop (E := E) (d := d) (w := 4) (w' := w') (c := c) (hl := hl) (bg := 0) (a := 1) (v2 := v2) (v3 := v3) hG (by omega) (fun _ H => mj_dc mj_P E (d + 31) 66 [.ref 159] H) (fun k _ H => mj_den mj_P E (d' + 9) 202 2 [.ref 205, .int (nI k)] [] H) (fun _ => True) (fun k g => g 169 0 = nI k) (fun k L g hm => QS k L g hm)
    (fun k u h s g hu e => by
      rcases hu with rfl | ⟨x, rfl⟩
      · rw [q48_155, if_pos (by decide), q48_168_1, if_neg (fun z => z rfl), e, mj_bi_some, q48_177_1]
      · rw [q48_155_1, if_pos (by decide), q48_168, if_neg (fun z => z rfl), e, mj_bi_some, q48_177])
    (fun k g g' e _ q => by rw [e _ _ (by omega)]; exact q)
    (fun k L g g' hm e q i hi => by rw [e 171 _ (by omega), e 172 _ (by omega)]; exact q i hi)
    (fun i L k h hS _ hcap hk h2 hb hC => by
      have hv : TV i = 0 := by omega
      have bgn : ∀ hm, MS 4 y t TY TV BG i L h hm → mj_den mj_P E (d' + 9) 202 2 [.ref 205, .int (nI k)] [] (mj_hw w' c hm hl) = mj_bi (mj_dc mj_P E (d' + 9) 201 [.ref 205, .int (nI (32 + 2 * k))] (mj_hw w' c hm hl)) (fun x1 h1 => mj_den mj_P E (d' + 9) 202 33 [.ref 205, .int (nI k)] [.int x1] h1) := fun hm q => by
        have k1 := wd i L h hm hS.2.2.1 q
        rw [if_pos ⟨h2, hv⟩] at k1
        rw [q202_2, k1, mj_bi_some, q202_8, if_neg (by decide), if_pos (by rw [show (16 : Int32) = nI 16 from rfl, mj_nIeq (by omega) (by omega)]; omega), q202_23, show (2 : Int32) * nI k = nI (2 * k) from mj_nImul 2 k, show (32 : Int32) + nI (2 * k) = nI (32 + 2 * k) from mj_nIadd 32 (2 * k)]
      rcases s_sayL (E := E) (d := d) (d' := d') (w' := w') (c := c) (hl := hl) hG hS hcap hk h2 hv hC with ⟨f, j, g, o1, o2, o3⟩ | ⟨j, g, o1, o2, o3, o4, o6, o7⟩
      · refine Or.inl ⟨f, j, g, o1, o2, fun hm u q hq _ => ?_⟩
        obtain ⟨hm', r1, r2⟩ := o3 hm q hq
        exact ⟨hm', by show mj_den mj_P E (d' + 9) 202 2 _ _ _ = _; rw [bgn hm q, r1, mj_bi_some, q202_33, if_neg (fun z => z rfl)], r2⟩
      · refine Or.inr ⟨j, L, g, o1, o2, o3, o4, o6, fun hm u q hq _ => ⟨fun hc => ?_, fun hc => ?_⟩⟩
        · obtain ⟨hm', r1, r2, r3, r4⟩ := (o7 hm q hq).1 hc
          refine ⟨hm', u, trivial, ?_, r2, r3, r4⟩
          show mj_den mj_P E (d' + 9) 202 2 _ _ _ = mj_den mj_P E (d' + 9) 202 2 _ _ _
          rw [bgn hm q, r1, mj_bi_some, q202_33, if_pos (by decide), q202_39, mj_nIs]
        · obtain ⟨hm', r1, r2⟩ := (o7 hm q hq).2 hc
          exact ⟨hm', by show mj_den mj_P E (d' + 9) 202 2 _ _ _ = _; rw [bgn hm q, r1, mj_bi_some, q202_33, if_neg (fun z => z rfl)], r2⟩)
    (fun i L k h hm u him q _ hb => by
      have k1 := wd i L h hm him q
      rw [if_neg (by omega)] at k1
      refine ⟨fun h0 => ?_, fun h0 => ?_⟩
      · show mj_den mj_P E (d' + 9) 202 2 _ _ _ = _
        rw [q202_2, k1, mj_bi_some, q202_8, if_pos rfl, q202_46, if_neg (fun z => z ((p_17 q).mpr h0)), q202_62]
      · obtain ⟨hm2, x1, x2⟩ := p_erM (E := E) (d := d' + 8) (w' := w') (c := c) (hl := hl) (f := 1) q
        have x1' : mj_dc mj_P E (d' + 9) 183 [.ref 205, .int 1] (mj_hw w' c hm hl) = some (some (.int (-1)), mj_hw w' c hm2 hl) := x1
        refine ⟨hm2, ?_, FM_GT x2⟩
        show mj_den mj_P E (d' + 9) 202 2 _ _ _ = _
        rw [q202_2, k1, mj_bi_some, q202_8, if_pos rfl, q202_46, if_pos (fun z => h0 ((p_17 q).mp z)), q202_57, x1', mj_bi_some, q202_62])
    (fun i L h hm u him q _ h2 hb => by
      have k1 := wd i L h hm him q
      rw [if_pos ⟨h2, by omega⟩] at k1
      obtain ⟨hm2, x1, x2⟩ := p_erM (E := E) (d := d' + 8) (w' := w') (c := c) (hl := hl) (f := 3) q
      have x1' : mj_dc mj_P E (d' + 9) 183 [.ref 205, .int 3] (mj_hw w' c hm hl) = some (some (.int (-1)), mj_hw w' c hm2 hl) := x1
      refine ⟨hm2, ?_, FM_GT x2⟩
      show mj_den mj_P E (d' + 9) 202 2 _ _ _ = _
      rw [q202_2, k1, mj_bi_some, q202_8, if_neg (by decide), if_neg (fun z => z rfl), x1', mj_bi_some, q202_22])
    16 0 i 0 h (.float 0) rfl (Or.inl rfl) hS (Nat.zero_le _) h0
  have er : ∀ hm, mj_dc mj_P E (d' + 10) 202 [.ref 205] (mj_hw w' c hm hl) = mj_den mj_P E (d' + 9) 202 2 [.ref 205, .int (nI 0)] [] (mj_hw w' c hm hl) := fun hm => by rw [e202, q202_0]; rfl
  rcases key with ⟨f, j, g, o1, o2, o3⟩ | ⟨k', j, L', g, o1, o2, o3, o4, o5, o6, o7⟩
  · refine Or.inl ⟨f, j, g, o1, o2, fun hm q => ?_⟩
    rw [er]; exact o3 hm (.float 0) q (fun i hi => by omega) trivial
  · refine Or.inr ⟨k', g, o1, o2, o3, o4, fun hm q => ?_⟩
    rw [er]
    obtain ⟨hm', r1, r2, r3, r4⟩ := o7 hm (.float 0) q (fun i hi => by omega) trivial
    exact ⟨hm', r1, r3, r4⟩
end MJZ23
/-! pinches -/
def QP (n k : Nat) (g hm : mj_HI) : Prop := ∃ f u : Nat → Nat, (∀ i, i < k → g 171 i = nI (f i) ∧ g 172 i = nI (u i) ∧ f i < n ∧ u i < n ∧ f i ≠ u i) ∧ ∀ z, z < 10 → hm 225 (10 + z) = iv_pin f u z k
section MJZ24
variable {E : mj_E} {d d' w w' c : Nat} {hl : Nat → Nat → Int64} {y TY TV BG : Nat → Nat} {t m n : Nat}
theorem nI_m1 {a n : Nat} (ha : a < 100000) (hn : n < 100000) (h : nI a ≤ nI n - 1) : a < n := by
  by_cases h0 : n = 0
  · subst h0
    exfalso
    have h1 : nI a ≤ (-1 : Int32) := h
    have h2 : (0 : Int32) ≤ nI a := by rw [mj_nI0 (by omega)]; trivial
    exact absurd (Int32.le_trans h2 h1) (by decide)
  · rw [mj_nIp (by omega), mj_nIle (by omega) (by omega)] at h; omega
theorem iv_pin_s {f u f' u' : Nat → Nat} {z k : Nat} (e : ∀ i, i < k → f' i = f i ∧ u' i = u i) : iv_pin f' u' z (k + 1) = if f' k = z then iv_pin f u z k ||| ((1 : Int32) <<< (nI (u' k) &&& 31)) else iv_pin f u z k := by
  have h : iv_pin f' u' z k = iv_pin f u z k := by
    unfold iv_pin
    exact mj_fd_eq k (fun i s hi => by rw [(e i hi).1, (e i hi).2]) 0
  show (if f' k = z then iv_pin f' u' z k ||| ((1 : Int32) <<< (nI (u' k) &&& 31)) else iv_pin f' u' z k) = _
  rw [h]
theorem s_pinL {i L k : Nat} {h : mj_HI} (hn10 : n ≤ 10) (hG : txG 5 y t m TY TV BG) (hS : XS m TY TV BG i L h) (hcap : iv_ph (h 165) L ≤ i) (hk : k < 16) (h2 : TY i = 2) (hv : TV i = 0) (h0 : h 169 0 = nI k) (h7 : h 159 7 = nI n) :
    (∃ f j g, mj_dc mj_P E (d + 31) 67 [.ref 159] (mj_hw w' c h hl) = some (some (.int 0), mj_hw w' c g hl) ∧ FT BG h g f j ∧ ∀ hm, MS 5 y t TY TV BG i L h hm → QP n k h hm → hm 205 6 = nI n → ∃ hm', mj_dc mj_P E (d' + 9) 203 [.ref 205] (mj_hw w' c hm hl) = some (some (.int (-1)), mj_hw w' c hm' hl) ∧ GT BG hm hm' f j) ∨
    (∃ j g, mj_dc mj_P E (d + 31) 67 [.ref 159] (mj_hw w' c h hl) = some (some (.int 1), mj_hw w' c g hl) ∧ fT h g ∧ g 169 0 = nI (k + 1) ∧ XS m TY TV BG j L g ∧ iv_ph (g 165) L ≤ j ∧ ∀ hm, MS 5 y t TY TV BG i L h hm → QP n k h hm → hm 205 6 = nI n →
        ((TY j = 3 ∧ TV j = 59 → ∃ hm', mj_dc mj_P E (d' + 9) 203 [.ref 205] (mj_hw w' c hm hl) = some (some (.int 0), mj_hw w' c hm' hl) ∧ MS 5 y t TY TV BG (j + 1) L g hm' ∧ QP n (k + 1) g hm' ∧ gT hm hm') ∧
         (¬ (TY j = 3 ∧ TV j = 59) → ∃ hm', mj_dc mj_P E (d' + 9) 203 [.ref 205] (mj_hw w' c hm hl) = some (some (.int (-1)), mj_hw w' c hm' hl) ∧ GT BG hm hm' 1 j))) := by
  have hilt := tx_lt hG hS.2.2.1 (show TY i ≠ 0 by omega)
  obtain ⟨h1, e1, S1, f1, fr1⟩ := p_stX (E := E) (d := d + 29) (w' := w') (c := c) (hl := hl) hG hS hilt
  have h71 : h1 159 7 = nI n := by rw [f1 _ _ (by omega) (by omega) (by omega) (by omega)]; exact h7
  have hc1 : mj_dc mj_P E (d + 31) 67 [.ref 159] (mj_hw w' c h hl) = mj_bi (mj_dc mj_P E (d + 30) 60 [.ref 159, .int (nI 0), .int (nI n - 1)] (mj_hw w' c h1 hl)) (fun x1 h2 => mj_den mj_P E (d + 30) 67 20 [.ref 159, .int (h1 159 12), .float 0] [.int x1] h2) := by
    rw [e67, q67_0, e1, mj_bv_some, q67_4, h71]; rfl
  have hr1 : ∀ hm, MS 5 y t TY TV BG i L h hm → hm 205 6 = nI n → ∃ hm1, MS 5 y t TY TV BG (i + 1) L h hm1 ∧ fS hm hm1 ∧ (∀ a k, ¬ (a = 205 ∧ 15 ≤ k ∧ k ≤ 18) → hm1 a k = hm a k) ∧ ∀ v g', mj_dc mj_P E (d' + 7) 198 [.ref 205, .int (nI 0), .int (nI n - 1)] (mj_hw w' c hm1 hl) = some (some (.int v), mj_hw w' c g' hl) → mj_dc mj_P E (d' + 9) 203 [.ref 205] (mj_hw w' c hm hl) = mj_den mj_P E (d' + 8) 203 13 [.ref 205, .float 0, .float 0] [.int v] (mj_hw w' c g' hl) := fun hm q h6 => by
    obtain ⟨hm1, q1, x2, x3, x4⟩ := p_200 (E := E) (d := d' + 2) (w' := w') (c := c) (hl := hl) (x := 0) (lo := nI 0) (hi := nI n - 1) hG q hS.2.2.1 (by decide) h2 hv
    refine ⟨hm1, q1, x2, x3, fun v g' ev => ?_⟩
    have k200 : mj_dc mj_P E (d' + 8) 200 [.ref 205, .int 19, .int 0, .int (nI n - 1)] (mj_hw w' c hm hl) = some (some (.int v), mj_hw w' c g' hl) := x4 _ _ ev
    rw [e203, q203_0, h6, k200, mj_bi_some]
  by_cases ok1 : okN TY TV (i + 1) 0 (nI n - 1)
  · obtain ⟨g2, e2, S2, f2, fr2⟩ := p_nbX (E := E) (d := d + 28) (w' := w') (c := c) (hl := hl) hG S1 (by omega) ok1
    have tv1 := (hG.2.2.2.2.2.2 (i + 1) S1.2.2.1).2.1 (by have := ok1.1; omega)
    have an : TV (i + 1) < n := nI_m1 (by omega) (by omega) ok1.2.2
    have v1e : h1 159 12 = nI (TV (i + 1)) := S1.2.1.2.2.1 (by have := ok1.1; omega)
    have X1 : mj_dc mj_P E (d + 30) 57 [.ref 159, .int 1] (mj_hw w' c g2 hl) = some (some (.int (if TY (i + 1 + 1) = 2 ∧ TV (i + 1 + 1) = 1 then 1 else 0)), mj_hw w' c g2 hl) := s_wdX (d := d + 29) (x := 1) hG S2.2.2.1 S2.2.1 (by omega)
    have hc2 : mj_dc mj_P E (d + 31) 67 [.ref 159] (mj_hw w' c h hl) = mj_den mj_P E (d + 30) 67 30 [.ref 159, .int (nI (TV (i + 1))), .float 0] [.int (if TY (i + 1 + 1) = 2 ∧ TV (i + 1 + 1) = 1 then 1 else 0)] (mj_hw w' c g2 hl) := by
      rw [hc1, e2, mj_bi_some, q67_20, if_pos (by decide), q67_25, X1, mj_bi_some, v1e]
    have hr2 : ∀ hm, MS 5 y t TY TV BG i L h hm → hm 205 6 = nI n → ∃ hm2, mj_dc mj_P E (d' + 9) 203 [.ref 205] (mj_hw w' c hm hl) = mj_den mj_P E (d' + 8) 203 27 [.ref 205, .int (nI (TV (i + 1))), .float 0] [.int (if TY (i + 1 + 1) = 2 ∧ TV (i + 1 + 1) = 1 then 1 else 0)] (mj_hw w' c hm2 hl) ∧ MS 5 y t TY TV BG (i + 1 + 1) L h hm2 ∧ fS hm hm2 ∧ (∀ a k, ¬ (a = 205 ∧ 15 ≤ k ∧ k ≤ 18) → hm2 a k = hm a k) := fun hm q h6 => by
      obtain ⟨hm1, q1, x2, x3, x4⟩ := hr1 hm q h6
      obtain ⟨hm2, y1, y2, y3, y4⟩ := p_nbM (E := E) (d := d' + 2) (w' := w') (c := c) (hl := hl) hG q1 S1.2.2.1 (by omega) ok1
      have k20 : mj_dc mj_P E (d' + 8) 184 [.ref 205, .int 20] (mj_hw w' c hm2 hl) = some (some (.int (if TY (i + 1 + 1) = 2 ∧ TV (i + 1 + 1) = 1 then 1 else 0)), mj_hw w' c hm2 hl) := s_wdM (d := d' + 7) (x := 1) hG S2.2.2.1 y2.2.1 (by decide)
      exact ⟨hm2, by rw [x4 _ _ y1, q203_13, if_pos (nI_n1 (by omega)), q203_21, k20, mj_bi_some], y2, fS_t x2 y3, fun a k z => by rw [y4 a k z, x3 a k z]⟩
    by_cases hw : TY (i + 1 + 1) = 2 ∧ TV (i + 1 + 1) = 1
    · rw [if_pos hw] at hc2
      obtain ⟨g3, e3, S3, f3, fr3⟩ := p_stX (E := E) (d := d + 29) (w' := w') (c := c) (hl := hl) hG S2 (tx_lt hG S2.2.2.1 (by omega))
      have h73 : g3 159 7 = nI n := by rw [f3 _ _ (by omega) (by omega) (by omega) (by omega), f2 _ _ (by omega) (by omega) (by omega) (by omega)]; exact h71
      have le3 := hG.2.2.2.2.2.2 (i + 1 + 1 + 1) S3.2.2.1
      have hr3 : ∀ hm, MS 5 y t TY TV BG i L h hm → hm 205 6 = nI n → ∃ hm3, mj_dc mj_P E (d' + 9) 203 [.ref 205] (mj_hw w' c hm hl) = mj_den mj_P E (d' + 8) 203 40 [.ref 205, .int (nI (TV (i + 1))), .float 0] [] (mj_hw w' c hm3 hl) ∧ MS 5 y t TY TV BG (i + 1 + 1 + 1) L h hm3 ∧ fS hm hm3 ∧ (∀ a k, ¬ (a = 205 ∧ 15 ≤ k ∧ k ≤ 18) → hm3 a k = hm a k) := fun hm q h6 => by
        obtain ⟨hm2, r1, r2, r3, r4⟩ := hr2 hm q h6
        rw [if_pos hw] at r1
        obtain ⟨hm3, x1, x2, x3, x4⟩ := p_stM (E := E) (d := d' + 4) (w' := w') (c := c) (hl := hl) hG r2 (tx_lt hG S2.2.2.1 (by omega))
        exact ⟨hm3, by rw [r1, q203_27, if_pos (by decide), q203_36, x1, mj_bv_some], x2, fS_t r3 x3, fun a k z => by rw [x4 a k z, r4 a k z]⟩
      have hc3 : mj_dc mj_P E (d + 31) 67 [.ref 159] (mj_hw w' c h hl) = mj_den mj_P E (d + 30) 67 43 [.ref 159, .int (nI (TV (i + 1))), .float 0] [] (mj_hw w' c g3 hl) := by
        rw [hc2, q67_30, if_pos (by decide), q67_39, e3, mj_bv_some]
      by_cases hsame : TY (i + 1 + 1 + 1) = 1 ∧ TV (i + 1 + 1 + 1) = TV (i + 1)
      · obtain ⟨gw, ew, Fw⟩ := p_wrX (E := E) (d := d + 29) (w' := w') (c := c) (hl := hl) (f := 2) S3
        have ew' : mj_dc mj_P E (d + 30) 58 [.ref 159, .int 2] (mj_hw w' c g3 hl) = some (some (.int 0), mj_hw w' c gw hl) := ew
        refine Or.inl ⟨2, _, gw, ?_, FT_t (fT_t (fX_T f1) (fT_t (fX_T f2) (fX_T f3))) (FX_FT Fw), fun hm q hq h6 => ?_⟩
        · rw [hc3, q67_43, S3.2.1.2.1, S3.2.1.2.2.1 (by omega), hsame.1, hsame.2, if_neg (fun z => z rfl), if_neg (fun z => z rfl), ew', mj_bi_some, q67_66, if_pos (Or.inl rfl)]
        · obtain ⟨hm3, r1, r2, r3, r4⟩ := hr3 hm q h6
          obtain ⟨hm4, x1, x2⟩ := p_erM (E := E) (d := d' + 7) (w' := w') (c := c) (hl := hl) (f := 2) r2
          have x1' : mj_dc mj_P E (d' + 8) 183 [.ref 205, .int 2] (mj_hw w' c hm3 hl) = some (some (.int (-1)), mj_hw w' c hm4 hl) := x1
          refine ⟨hm4, ?_, GT_t (fS_T r3) (FM_GT x2)⟩
          rw [r1, q203_40, (p_3 r2).1.mpr hsame.1, (p_3 r2).2 hsame.1, hsame.2, if_neg (fun z => z rfl), if_neg (fun z => z rfl), x1', mj_bi_some, q203_61]
      · have hc4 : mj_dc mj_P E (d + 31) 67 [.ref 159] (mj_hw w' c h hl) = mj_bi (mj_dc mj_P E (d + 30) 60 [.ref 159, .int (nI 0), .int (nI n - 1)] (mj_hw w' c g3 hl)) (fun x1 h2 => mj_den mj_P E (d + 30) 67 78 [.ref 159, .int (nI (TV (i + 1))), .int (g3 159 12)] [.int x1] h2) := by
          have k67 : mj_den mj_P E (d + 30) 67 43 [.ref 159, .int (nI (TV (i + 1))), .float 0] [] (mj_hw w' c g3 hl) = mj_den mj_P E (d + 30) 67 67 [.ref 159, .int (nI (TV (i + 1))), .int (g3 159 12)] [] (mj_hw w' c g3 hl) := by
            rw [q67_43]
            by_cases ht : TY (i + 1 + 1 + 1) = 1
            · have e12 : g3 159 12 = nI (TV (i + 1 + 1 + 1)) := S3.2.1.2.2.1 (by omega)
              have tv3 := le3.2.1 (by omega)
              have ne : ¬ g3 159 12 = nI (TV (i + 1)) := by rw [e12, mj_nIeq (by omega) (by omega)]; exact fun z => hsame ⟨ht, z⟩
              have e11 : g3 159 11 = 1 := by rw [S3.2.1.2.1, ht]; rfl
              rw [if_neg (fun z => z e11), if_pos ne]
            · have n11 : ¬ g3 159 11 = 1 := by rw [S3.2.1.2.1, show (1 : Int32) = nI 1 from rfl, mj_nIeq (by omega) (by omega)]; exact ht
              rw [if_pos n11]
          rw [hc3, k67, q67_67, h73]; rfl
        have hr4 : ∀ hm, MS 5 y t TY TV BG i L h hm → hm 205 6 = nI n → ∃ hm3, (∀ v g', mj_dc mj_P E (d' + 8) 198 [.ref 205, .int (nI 0), .int (nI n - 1)] (mj_hw w' c hm3 hl) = some (some (.int v), mj_hw w' c g' hl) → mj_dc mj_P E (d' + 9) 203 [.ref 205] (mj_hw w' c hm hl) = mj_den mj_P E (d' + 8) 203 73 [.ref 205, .int (nI (TV (i + 1))), .float 0] [.int v] (mj_hw w' c g' hl)) ∧ MS 5 y t TY TV BG (i + 1 + 1 + 1) L h hm3 ∧ fS hm hm3 ∧ (∀ a k, ¬ (a = 205 ∧ 15 ≤ k ∧ k ≤ 18) → hm3 a k = hm a k) := fun hm q h6 => by
          obtain ⟨hm3, r1, r2, r3, r4⟩ := hr3 hm q h6
          refine ⟨hm3, fun v g' ev => ?_, r2, r3, r4⟩
          have h63 : hm3 205 6 = nI n := by rw [r4 _ _ (by omega)]; exact h6
          have ev' : mj_dc mj_P E (d' + 8) 198 [.ref 205, .int 0, .int (nI n - 1)] (mj_hw w' c hm3 hl) = some (some (.int v), mj_hw w' c g' hl) := ev
          have k62 : mj_den mj_P E (d' + 8) 203 40 [.ref 205, .int (nI (TV (i + 1))), .float 0] [] (mj_hw w' c hm3 hl) = mj_den mj_P E (d' + 8) 203 62 [.ref 205, .int (nI (TV (i + 1))), .float 0] [] (mj_hw w' c hm3 hl) := by
            rw [q203_40]
            by_cases ht : TY (i + 1 + 1 + 1) = 1
            · have tv3 := le3.2.1 (by omega)
              have ne : ¬ hm3 205 18 = nI (TV (i + 1)) := by rw [(p_3 r2).2 ht, mj_nIeq (by omega) (by omega)]; exact fun z => hsame ⟨ht, z⟩
              rw [if_neg (fun z => z ((p_3 r2).1.mpr ht)), if_pos ne]
            · rw [if_pos (fun z => ht ((p_3 r2).1.mp z))]
          rw [r1, k62, q203_62, h63, ev', mj_bi_some]
        by_cases ok2 : okN TY TV (i + 1 + 1 + 1) 0 (nI n - 1)
        · obtain ⟨g4, e4, S4, f4, fr4⟩ := p_nbX (E := E) (d := d + 28) (w' := w') (c := c) (hl := hl) hG S3 (by omega) ok2
          have tv3 := le3.2.1 (by have := ok2.1; omega)
          have bn : TV (i + 1 + 1 + 1) < n := nI_m1 (by omega) (by omega) ok2.2.2
          have v3e : g3 159 12 = nI (TV (i + 1 + 1 + 1)) := S3.2.1.2.2.1 (by have := ok2.1; omega)
          have hne : TV (i + 1) ≠ TV (i + 1 + 1 + 1) := fun z => hsame ⟨ok2.1, z.symm⟩
          have frh : ∀ a k, a ≠ 159 → g4 a k = h a k := fun a k' za => by rw [fr4 a k' za, fr3 a k' za, fr2 a k' za, fr1 a k' za]
          have g0 : g4 169 0 = nI k := by rw [frh _ _ (by omega)]; exact h0
          obtain ⟨gz, hgz⟩ : ∃ gz, gz = mj_u (mj_u (mj_u (mj_u g4 170 k 0) 171 k (nI (TV (i + 1)))) 172 k (nI (TV (i + 1 + 1 + 1)))) 169 0 (nI (k + 1)) := ⟨_, rfl⟩
          have ea := p_add (E := E) (d := d + 29) (w' := w') (c := c) (hl := hl) hk g0 0 (nI (TV (i + 1))) (nI (TV (i + 1 + 1 + 1)))
          rw [← hgz] at ea
          have fz : ∀ a k', ¬ (169 ≤ a ∧ a ≤ 172) → gz a k' = g4 a k' := fun a k' za => by rw [hgz, mj_u_pt (by omega), mj_u_pt (by omega), mj_u_pt (by omega), mj_u_pt (by omega)]
          have bz : bX h gz L := fun k' _ => ⟨by rw [fz _ _ (by omega), frh _ _ (by omega)], by rw [fz _ _ (by omega), frh _ _ (by omega)]⟩
          refine Or.inr ⟨_, gz, ?_, fT_t (fT_t (fT_t (fX_T f1) (fT_t (fX_T f2) (fX_T f3))) (fX_T f4)) (fun a k' za zb zc => fz a k' zb), by rw [hgz, mj_u_eq], XS_c S4 (fun a k' za => fz a k' (by omega)), by rw [bX_ph bz (Nat.le_refl _)]; omega, fun hm q hq h6 => ?_⟩
          · rw [hc4, e4, mj_bi_some, q67_78, if_pos (by decide), v3e, q67_83, ea, mj_bv_some, q67_93, if_pos (Or.inr rfl)]
          · obtain ⟨hm3, r1, r2, r3, r4⟩ := hr4 hm q h6
            obtain ⟨hm4, y1, y2, y3, y4⟩ := p_nbM (E := E) (d := d' + 3) (w' := w') (c := c) (hl := hl) hG r2 S3.2.2.1 (by omega) ok2
            obtain ⟨fq, uq, hq1, hq2⟩ := hq
            have c20 : (0 ≤ nI (10 + TV (i + 1)) ∧ (nI (10 + TV (i + 1))).toNatClampNeg < 20) := ⟨by rw [mj_nI0 (by omega)]; trivial, by rw [mj_nIc (by omega)]; omega⟩
            have e10 : (10 : Int32) + nI (TV (i + 1)) = nI (10 + TV (i + 1)) := mj_nIadd 10 _
            obtain ⟨hm5, hh5⟩ : ∃ hm5, hm5 = mj_u hm4 225 (10 + TV (i + 1)) (hm4 225 (10 + TV (i + 1)) ||| ((1 : Int32) <<< (nI (TV (i + 1 + 1 + 1)) &&& 31))) := ⟨_, rfl⟩
            have q5 : MS 5 y t TY TV BG (i + 1 + 1 + 1 + 1) L h hm5 := MS_h y2 (fun a k' z => by rw [hh5, mj_u_pt (by omega)])
            have g5 : gT hm hm5 := gT_t (fS_T r3) (gT_t (fS_T y3) (fun a k' z1 z2 z3 z4 z5 z6 z7 => by rw [hh5, mj_u_pt (by omega)]))
            have r81 : mj_dc mj_P E (d' + 9) 203 [.ref 205] (mj_hw w' c hm hl) = mj_bi (mj_dc mj_P E (d' + 8) 199 [.ref 205, .int (nI 59)] (mj_hw w' c hm5 hl)) (fun x1 h1 => mj_den mj_P E (d' + 8) 203 109 [.ref 205, .int (nI (TV (i + 1))), .int (nI (TV (i + 1 + 1 + 1)))] [.int x1] h1) := by
              rw [r1 _ _ y1, q203_73, if_pos (nI_n1 (by omega)), q203_81, e10, if_pos c20, if_pos c20, mj_nIc (by omega), ← hh5]; rfl
            have o225 : ∀ z, hm4 225 z = hm 225 z := fun z => by rw [y4 _ _ (by omega), r4 _ _ (by omega)]
            obtain ⟨px, pn⟩ := p_xpM (E := E) (d := d' + 3) (w' := w') (c := c) (hl := hl) (x := 59) hG q5 S4.2.2.1 (by omega)
            refine ⟨fun hc => ?_, fun hc => ?_⟩
            · obtain ⟨hm6, s1, s2, s3, s4⟩ := px hc
              refine ⟨hm6, by rw [r81, s1, mj_bi_some, q203_109], MS_g' s2 bz, ⟨fun x => if x = k then TV (i + 1) else fq x, fun x => if x = k then TV (i + 1 + 1 + 1) else uq x, fun i' hi' => ?_, fun z hz => ?_⟩, gT_t g5 (fS_T s3)⟩
              · by_cases hik : i' = k
                · subst hik
                  simp only [if_true]
                  exact ⟨by rw [hgz, mj_u_pt (by omega), mj_u_pt (by omega), mj_u_eq], by rw [hgz, mj_u_pt (by omega), mj_u_eq], an, bn, hne⟩
                · simp only [if_neg hik]
                  have eg : ∀ a, 171 ≤ a → a ≤ 172 → gz a i' = h a i' := fun a za zb => by rw [hgz, mj_u_pt (by omega), mj_u_pt (by omega), mj_u_pt (by omega), mj_u_pt (by omega), frh _ _ (by omega)]
                  rw [eg _ (by omega) (by omega), eg _ (by omega) (by omega)]
                  exact hq1 i' (by omega)
              · rw [iv_pin_s (f := fq) (u := uq) (fun i hi => ⟨if_neg (by omega), if_neg (by omega)⟩)]
                simp only [if_true]
                rw [s4 _ _ (by omega), hh5]
                by_cases hzz : TV (i + 1) = z
                · rw [if_pos hzz, ← hzz, mj_u_eq, o225, hq2 _ (by omega)]
                · rw [if_neg hzz, mj_u_pt (by omega), o225, hq2 z hz]
            · obtain ⟨hm6, s1, s2⟩ := pn hc
              exact ⟨hm6, by rw [r81, s1, mj_bi_some, q203_109], GT_t g5 (FM_GT s2)⟩
        · obtain ⟨g4, e4, F4⟩ := p_nbXf (E := E) (d := d + 28) (w' := w') (c := c) (hl := hl) hG S3 (by omega) ok2
          refine Or.inl ⟨_, _, g4, ?_, FT_t (fT_t (fX_T f1) (fT_t (fX_T f2) (fX_T f3))) (FX_FT F4), fun hm q hq h6 => ?_⟩
          · rw [hc4, e4, mj_bi_some, q67_78, if_neg (fun z => z rfl), if_pos (Or.inl rfl)]
          · obtain ⟨hm3, r1, r2, r3, r4⟩ := hr4 hm q h6
            obtain ⟨hm4, y1, y2⟩ := p_nbMf (E := E) (d := d' + 3) (w' := w') (c := c) (hl := hl) hG r2 S3.2.2.1 (by omega) ok2
            exact ⟨hm4, by rw [r1 _ _ y1, q203_73, if_neg (fun z => z rfl)], GT_t (fS_T r3) (FM_GT y2)⟩
    · rw [if_neg hw] at hc2
      obtain ⟨gw, ew, Fw⟩ := p_wrX (E := E) (d := d + 29) (w' := w') (c := c) (hl := hl) (f := 1) S2
      have ew' : mj_dc mj_P E (d + 30) 58 [.ref 159, .int 1] (mj_hw w' c g2 hl) = some (some (.int 0), mj_hw w' c gw hl) := ew
      refine Or.inl ⟨1, _, gw, ?_, FT_t (fT_t (fX_T f1) (fX_T f2)) (FX_FT Fw), fun hm q hq h6 => ?_⟩
      · rw [hc2, q67_30, if_neg (fun z => z rfl), ew', mj_bi_some, q67_38, if_pos (Or.inl rfl)]
      · obtain ⟨hm2, r1, r2, r3, r4⟩ := hr2 hm q h6
        rw [if_neg hw] at r1
        obtain ⟨hm4, x1, x2⟩ := p_erM (E := E) (d := d' + 7) (w' := w') (c := c) (hl := hl) (f := 1) r2
        have x1' : mj_dc mj_P E (d' + 8) 183 [.ref 205, .int 1] (mj_hw w' c hm2 hl) = some (some (.int (-1)), mj_hw w' c hm4 hl) := x1
        exact ⟨hm4, by rw [r1, q203_27, if_neg (fun z => z rfl), x1', mj_bi_some, q203_35], GT_t (fS_T r3) (FM_GT x2)⟩
  · obtain ⟨g2, e2, F2⟩ := p_nbXf (E := E) (d := d + 28) (w' := w') (c := c) (hl := hl) hG S1 (by omega) ok1
    refine Or.inl ⟨_, _, g2, ?_, FT_t (fX_T f1) (FX_FT F2), fun hm q hq h6 => ?_⟩
    · rw [hc1, e2, mj_bi_some, q67_20, if_neg (fun z => z rfl), if_pos (Or.inl rfl)]
    · obtain ⟨hm1, q1, x2, x3, x4⟩ := hr1 hm q h6
      obtain ⟨hm2, y1, y2⟩ := p_nbMf (E := E) (d := d' + 2) (w' := w') (c := c) (hl := hl) hG q1 S1.2.2.1 (by omega) ok1
      exact ⟨hm2, by rw [x4 _ _ y1, q203_13, if_neg (fun z => z rfl)], GT_t (fS_T x2) (FM_GT y2)⟩
end MJZ24
