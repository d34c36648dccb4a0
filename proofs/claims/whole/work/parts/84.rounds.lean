/-- a minute more -/
theorem au_min {r n l : Nat} {h m : mj_HI} (hr : r = 2 ∨ r = 177) (q : au r n l h m) (v : Int32) : au r n l (mj_u (mj_u h r 3 (h r 3 + 1)) 188 1 v) (mj_u m 206 0 (m 206 0 + 1)) := by
  obtain ⟨⟨⟨a0, a1, a2, a3, a4, a5, a6⟩, hb, x3, x4, x5, x6, x7⟩, y⟩ := q
  rw [a3]
  generalize m 206 0 + 1 = D
  refine ⟨⟨⟨?_, ?_, ?_, ?_, ?_, ?_, ?_⟩, ?_, fun d hd => ?_, fun hq d hd => ?_, fun k hk => ?_, fun hq k hk => ?_, fun d hd => ?_⟩, fun hr i hi => ?_⟩
  · simp (disch := omega) only [mj_u_pt]; exact a0
  · simp (disch := omega) only [mj_u_pt]; exact a1
  · simp (disch := omega) only [mj_u_pt]; exact a2
  · rw [mj_u_pt (by omega), mj_u_eq, mj_u_eq]
  · simp (disch := omega) only [mj_u_pt]; exact a4
  · simp (disch := omega) only [mj_u_pt]; exact a5
  · simp (disch := omega) only [mj_u_pt]; exact a6
  · rw [mj_u_pt (by omega)]; exact hb
  · have := x3 d hd
    simp (disch := omega) only [mj_u_pt]; exact this
  · have : (fun k => decide ((mj_u m 206 0 D) 206 (45 + k) = nI (d + 1))) = (fun k => decide (m 206 (45 + k) = nI (d + 1))) := funext (fun k => by rw [mj_u_pt (by omega)])
    rw [this]
    simp (disch := omega) only [mj_u_pt]; exact x4 hq d hd
  · have := x5 k hk
    simp (disch := omega) only [mj_u_pt]; exact this
  · have := x6 hq k hk
    simp (disch := omega) only [mj_u_pt]; exact this
  · rw [mj_u_pt (by omega)]; exact x7 d hd
  · have := y hr i hi
    simp (disch := omega) only [mj_u_pt]; exact this
theorem nat_sub_or {A W S0 : Nat} (hA : ∀ j, A.testBit j = true → S0.testBit j = true) (hW : ∀ j, W.testBit j = true → S0.testBit j = true) : ∀ j, (A ||| W).testBit j = true → S0.testBit j = true := fun j hj => by
  rw [Nat.testBit_or, Bool.or_eq_true] at hj
  exact hj.elim (hA j) (hW j)
section MJ84
variable {E : mj_E} {d d' w c : Nat} {hl : Nat → Nat → Int64}
theorem s_rounds {r n l L len s p k S0 : Nat} {cb cw cc y f t : Nat → Nat} {ops args kd wds : Nat → Int32} (hE : mj_EK E) (hr : mj_Rm w c r) (hr2 : r = 2 ∨ r = 177) (n10 : n ≤ 10) (l12 : l ≤ 12) (hk : k < l) : ∀ (cnt T S A : Nat) (hx : mj_HI) (u8 u9 : Value), T + cnt = 200 → S < 2 ^ n → S ≠ 0 → (∀ j, S.testBit j = true → S0.testBit j = true) → A < 2 ^ n → (∀ j, A.testBit j = true → S0.testBit j = true) → hx r 0 = nI n → hx r 1 = nI l → (∃ b, b ≤ 150 ∧ hx r 6 = nI b) → hx 188 1 = nI T → au_KC n L len s p cb cw cc y f t hx → hx 18 = ops → hx 19 = args → hx 14 = kd → hx 24 = wds → ∃ (hx' : mj_HI) (S' A' T' : Nat) (u8' u9' : Value), mj_den mj_P E (d + 6) 1 45 [.ref 188, .ref 1, .ref r, .int (nI k), .int (if r = 2 then 0 else 1), .int (nI S0), .int (nI S), .int (nI A), .int (nI T), u8, u9] [] (mj_hw w c hx hl) = mj_den mj_P E (d + 6) 1 134 [.ref 188, .ref 1, .ref r, .int (nI k), .int (if r = 2 then 0 else 1), .int (nI S0), .int (nI S'), .int (nI A'), .int (nI T'), u8', u9'] [] (mj_hw w c hx' hl) ∧ au_X r hx hx' ∧ (∀ j, hx' (r + 10) j = hx (r + 10) j) ∧ hx' 188 1 = nI T' ∧ T' ≤ 200 ∧ S' < 2 ^ n ∧ S' ≠ 0 ∧ (∀ j, S'.testBit j = true → S0.testBit j = true) ∧ A' < 2 ^ n ∧ (∀ j, A'.testBit j = true → S0.testBit j = true) ∧ hx' r 0 = nI n ∧ hx' r 1 = nI l ∧ (∃ b, b ≤ 150 ∧ hx' r 6 = nI b) ∧ ∀ (hm : mj_HI) (u5 u6 : Value), au_KM r n l L len s p cb cw cc y f t ops args kd wds hm → au r n l hx hm → hm 205 46 = nI A → ∃ (hm' : mj_HI) (u5' u6' : Value), mj_den mj_P E (d' + 7) 225 10 [.ref 205, .int (nI k), .int (nI S0), .int (nI S), .int (nI T), u5, u6] [] (mj_hw w c hm hl) = mj_den mj_P E (d' + 7) 225 112 [.ref 205, .int (nI k), .int (nI S0), .int (nI S'), .int (nI T'), u5', u6'] [] (mj_hw w c hm' hl) ∧ au_M hm hm' ∧ au r n l hx' hm' ∧ hm' 205 46 = nI A' := by
  have h2n : (2 : Nat) ^ n ≤ 2 ^ 10 := Nat.pow_le_pow_right (by omega) n10
  intro cnt
  induction cnt with
  | zero =>
    intro T S A hx u8 u9 hT hS hS0 hSS hA hAS h0 h1 hb h188 qC ho ha hk' hwd
    have hT : T = 200 := by omega
    subst hT
    refine ⟨hx, S, A, 200, u8, u9, ?_, fun _ _ _ _ _ _ _ => rfl, fun _ => rfl, h188, by omega, hS, hS0, hSS, hA, hAS, h0, h1, hb, fun hm u5 u6 qM q h46 => ⟨hm, u5, u6, ?_, fun _ _ _ _ _ _ _ => rfl, q, h46⟩⟩
    · rw [g1_45 hr, show (200 : Int32) = nI 200 from rfl, if_pos (Int32.le_refl _)]
    · rw [g225_10, s_ones (d := d' + 6) (by omega), mj_bi_some, g225_15]
      split
      · rfl
      · rw [show (200 : Int32) = nI 200 from rfl, if_pos (Int32.le_refl _)]
  | succ cnt ih =>
    intro T S A hx u8 u9 hT hS hS0 hSS hA hAS h0 h1 hb h188 qC ho ha hk' hwd
    have hT200 : ¬ nI 200 ≤ nI T := by rw [mj_nIle (by omega) (by omega)]; omega
    have hpc : mj_pc 12 S ≤ 12 := mj_pcb S
    by_cases hp1 : mj_pc 12 S ≤ 1
    · have hp1' : nI (mj_pc 12 S) ≤ 1 := by rw [show (1 : Int32) = nI 1 from rfl, mj_nIle (by omega) (by omega)]; exact hp1
      refine ⟨hx, S, A, T, u8, u9, ?_, fun _ _ _ _ _ _ _ => rfl, fun _ => rfl, h188, by omega, hS, hS0, hSS, hA, hAS, h0, h1, hb, fun hm u5 u6 qM q h46 => ⟨hm, u5, u6, ?_, fun _ _ _ _ _ _ _ => rfl, q, h46⟩⟩
      · rw [g1_45 hr, show (200 : Int32) = nI 200 from rfl, if_neg hT200, s_bc (d := d + 5) (by omega), mj_bi_some, g1_58 hr, if_pos hp1']
      · rw [g225_10, s_ones (d := d' + 6) (by omega), mj_bi_some, g225_15, if_pos hp1']
    · have hp1' : ¬ nI (mj_pc 12 S) ≤ 1 := by rw [show (1 : Int32) = nI 1 from rfl, mj_nIle (by omega) (by omega)]; exact hp1
      obtain ⟨qL, ⟨s16, s22, s25⟩, qP⟩ := id qC
      obtain ⟨g, W, w1, w2, w3, w4, w5, w6, w7, w8, w9⟩ := s_winc (E := E) (d := d) (d' := d') (w := w) (c := c) (hl := hl) (r := r) (n := n) (l := l) (k := k) (L := L) (len := len) (S := S) (T := T) (cb := cb) (cw := cw) (cc := cc) (wd := wv_wd y wds s T) (ops := ops) (args := args) (kd := kd) hE hr hr2 n10 l12 hk (by omega) n 0 0 hx (.float 0) (by omega) (by omega) h0 h1 hb h188 qL ho ha hk'
      have w5' : ∀ j, W.testBit j = true → S.testBit j = true := fun j hj => (w5 j hj).resolve_left (by rw [Nat.zero_testBit]; decide)
      have gC : ∀ a k, 13 ≤ a → a ≤ 19 ∨ (22 ≤ a ∧ a ≤ 29) → g a k = hx a k := fun a k z1 z2 => w2 a k (by omega) (by omega) (by omega) (by omega) (by omega)
      obtain ⟨g2, S', v1, v2, v3, v4, v5, v6, v7, v8, v9, v10⟩ := s_remain (E := E) (d := d) (d' := d') (w := w) (c := c) (hl := hl) (r := r) (n := n) (l := l) (L := L) (len := len) (s := s) (p := p) (S := S) (W := W) (k := k) (S0 := S0) (T := T) (cb := cb) (cw := cw) (cc := cc) (y := y) (f := f) (t := t) (wd := wv_wd y wds s T) (hx := g) hr hr2 n10 hS hS0 w4 w5' w6 w7 w8 (au_KC_c qC gC)
      have hX2 : au_X r hx g2 := au_X_t w2 v2
      have g2C : ∀ a k, 13 ≤ a → a ≤ 19 ∨ (22 ≤ a ∧ a ≤ 29) → (mj_u (mj_u g2 r 3 (g2 r 3 + 1)) 188 1 (nI (T + 1))) a k = hx a k := fun a k z1 z2 => by rw [mj_u_pt (by omega), mj_u_pt (by omega)]; exact hX2 a k (by omega) (by omega) (by omega) (by omega) (by omega)
      have h2188 : g2 188 1 = nI T := by rw [(v3 _).1, (w3 _).1]; exact h188
      obtain ⟨hx', S2, A2, T2, u8', u9', i1, i2, i2b, i3, i4, i5, i6, i7, i8, i9, i10, i11, i12, i13⟩ := ih (T + 1) S' (A ||| W) (mj_u (mj_u g2 r 3 (g2 r 3 + 1)) 188 1 (nI (T + 1))) (.int (wv_wd y wds s T)) (.int (nI W)) (by omega) v4 v5 (fun j hj => hSS j (v6 j hj)) (Nat.or_lt_two_pow hA w4) (nat_sub_or hAS (fun j hj => hSS j (w5' j hj))) (by rw [mj_u_pt (by omega), mj_u_pt (by omega)]; exact v7) (by rw [mj_u_pt (by omega), mj_u_pt (by omega)]; exact v8) (by rw [mj_u_pt (by omega), mj_u_pt (by omega)]; exact v9) mj_u_eq (au_KC_c qC g2C) (by rw [← ho]; exact funext (fun k => g2C _ _ (by omega) (by omega))) (by rw [← ha]; exact funext (fun k => g2C _ _ (by omega) (by omega))) (by rw [← hk']; exact funext (fun k => g2C _ _ (by omega) (by omega))) (by rw [← hwd]; exact funext (fun k => g2C _ _ (by omega) (by omega)))
      refine ⟨hx', S2, A2, T2, u8', u9', ?_, au_X_t hX2 (au_X_t (fun a k z1 z2 z3 z4 z5 => by rw [mj_u_pt (by omega), mj_u_pt (by omega)]) i2), fun j => by rw [i2b, mj_u_pt (by omega), mj_u_pt (by omega), (v3 j).2, (w3 j).2], i3, i4, i5, i6, i7, i8, i9, i10, i11, i12, fun hm u5 u6 qM q h46 => ?_⟩
      · have ew : mj_dc mj_P E (d + 6) 103 [.ref 1, .int (nI T)] (mj_hw w c hx hl) = some (some (.int (wv_wd y wds s T)), mj_hw w c hx hl) := by rw [← hwd]; exact s_wordX (d := d + 5) s16 (by omega) s22 s25
        have e2 : mj_dc mj_P E (d + 6) 2 [.ref 188, .ref 1, .ref r, .int (nI k), .int (nI S), .int (wv_wd y wds s T), .int (if r = 2 then 0 else 1)] (mj_hw w c hx hl) = some (some (.int (nI W)), mj_hw w c g hl) := by
          rw [xg2 E (d + 5) r, g2_0 hr, s_bc (d := d + 4) (by omega), mj_bi_some, g2_5 hr]; exact w1
        rw [g1_45 hr, show (200 : Int32) = nI 200 from rfl, if_neg hT200, s_bc (d := d + 5) (by omega), mj_bi_some, g1_58 hr, if_neg hp1', ew, mj_bi_some, g1_68 hr, e2, mj_bi_some, g1_83 hr, v1, mj_bi_some, g1_99 hr, bx_or, mj_nIs, mj_u_pt (show (188 : Nat) ≠ r ∨ (1 : Nat) ≠ 3 by omega), h2188, mj_nIs]
        exact i1
      · obtain ⟨f1, x1, x2, x3⟩ := w9 hm qM.1 qM.2.1 qM.2.2.2.1 q
        obtain ⟨m5, m6, m7, mL, ⟨mS1, mS2, mS3⟩, mP⟩ := id qM
        have f46 : f1 205 46 = nI A := by rw [x2 _ _ (by omega) (by omega) (by omega) (by omega) (by omega)]; exact h46
        have x2 := au_O_M x2
        have qM1 := au_KM_c qM x2
        obtain ⟨f2, u6', y1, y2, y3, y4⟩ := v10 ops args kd wds f1 u6 qM1 x3
        have qM2 := au_KM_c qM1 y2
        have hf0 : mj_dc mj_P E (d' + 7) 223 [.ref 205, .int (nI k), .int (nI S), .int (nI T)] (mj_hw w c hm hl) = some (some (.int (nI W)), mj_hw w c f1 hl) := by
          rw [e223, q223_0, s_wordM (d := d' + 5) s16 (by omega) mS1 mS2, ← mS3 T, mj_bi_some, q223_5]; exact x1
        have hw2 : mj_dc mj_P E (d' + 7) 219 [.ref 205, .int (nI T)] (mj_hw w c f1 hl) = some (some (.int (wv_wd y wds s T)), mj_hw w c f1 hl) := by
          rw [s_wordM (d := d' + 6) s16 (by omega) qM1.2.2.2.2.1.1 qM1.2.2.2.2.1.2.1, ← qM1.2.2.2.2.1.2.2 T]
        obtain ⟨hm', u5', u6'', z1, z2, z3, z4⟩ := i13 (mj_u f2 206 0 (f2 206 0 + 1)) (.int (nI W)) (.int u6') (au_KM_c qM2 (fun a k z1 z2 z3 z4 z5 => mj_u_pt (by omega))) (au_min hr2 y3 (nI (T + 1))) (by rw [mj_u_pt (by omega), y4, f46, bx_or])
        refine ⟨hm', u5', u6'', ?_, au_M_t x2 (au_M_t y2 (au_M_t (fun a k z1 z2 z3 z4 z5 => mj_u_pt (by omega)) z2)), z3, z4⟩
        have zz : (0 : Int32).toNatClampNeg = 0 := by decide
        rw [g225_10, s_ones (d := d' + 6) (by omega), mj_bi_some, g225_15, if_neg hp1', show (200 : Int32) = nI 200 from rfl, if_neg hT200, hf0, mj_bi_some, g225_35, hw2, mj_bi_some, y1, g225_88, if_pos (by decide), if_pos (by decide), zz, mj_nIs]
        exact z1
end MJ84
