section MJZ5
variable {E : mj_E} {d w c : Nat} {hi : mj_HI} {hl : Nat → Nat → Int64}
/-- all tokens are cut -/
theorem s_cut {y : Nat → Nat} {t : Nat} (hw : 3 ≤ w ∧ w ≤ 6) (hE : mj_EK E) (ht : t ≤ 400) (h0 : hi 159 0 = nI t) (hy : ∀ i, i < t → y i < 256 ∧ hi 173 i = (nI (y i)).toInt8.toInt32) : ∃ (g : mj_HI) (m : Nat) (TY TV : Nat → Nat), mj_dc mj_P E (d + 10) 49 [.ref 159] (mj_hw w c hi hl) = some (none, mj_hw w c g hl) ∧ g 159 9 = nI (m + 1) ∧ m ≤ t ∧ (∀ i, i < m → lxB y t (lxP y t i) < t) ∧ lxB y t (lxP y t m) = t ∧ (∀ i, i ≤ m → lxI y t w (lxB y t (lxP y t i)) (TY i) (TV i) ∧ g 174 i = nI (TY i) ∧ (TY i < 4 → g 175 i = nI (TV i)) ∧ g 176 i = nI (lxB y t (lxP y t i))) ∧ ∀ a k, a ≠ 174 → a ≠ 175 → a ≠ 176 → ¬ (a = 159 ∧ k = 9) → g a k = hi a k := by
  have hgo : ∀ f p i T h (TY TV : Nat → Nat), t - p ≤ f → p ≤ t → i ≤ p → T ≤ i → lxB y t p = lxB y t (lxP y t T) → h 159 9 = nI T → (∀ j, j < T → lxB y t (lxP y t j) < t) → (∀ j, j < T → lxI y t w (lxB y t (lxP y t j)) (TY j) (TV j) ∧ h 174 j = nI (TY j) ∧ (TY j < 4 → h 175 j = nI (TV j)) ∧ h 176 j = nI (lxB y t (lxP y t j))) → (∀ a k, a ≠ 174 → a ≠ 175 → a ≠ 176 → ¬ (a = 159 ∧ k = 9) → h a k = hi a k) → ∃ (v1 v2 : Int32) (m : Nat) (g : mj_HI) (TY TV : Nat → Nat), mj_den mj_P E (d + 9) 49 9 [.ref 159, .int (nI p), .int (nI i)] [] (mj_hw w c h hl) = mj_den mj_P E (d + 9) 49 64 [.ref 159, .int v1, .int v2] [] (mj_hw w c g hl) ∧ m ≤ t ∧ lxB y t (lxP y t m) = t ∧ g 159 9 = nI m ∧ (∀ j, j < m → lxB y t (lxP y t j) < t) ∧ (∀ j, j < m → lxI y t w (lxB y t (lxP y t j)) (TY j) (TV j) ∧ g 174 j = nI (TY j) ∧ (TY j < 4 → g 175 j = nI (TV j)) ∧ g 176 j = nI (lxB y t (lxP y t j))) ∧ (∀ a k, a ≠ 174 → a ≠ 175 → a ≠ 176 → ¬ (a = 159 ∧ k = 9) → g a k = hi a k) := by
    intro f
    induction f with
    | zero =>
      intro p i T h TY TV hf hp hip hTi hB h9 hlt hst hfr
      have hpt : p = t := by omega
      have hBt : lxB y t p = p := lx_f (fun z => by omega)
      have hg0 : h 159 0 = nI t := by rw [hfr _ _ (by omega) (by omega) (by omega) (by omega)]; exact h0
      refine ⟨nI p, nI i, T, h, TY, TV, ?_, by omega, by rw [← hB, hBt, hpt], h9, hlt, hst, hfr⟩
      rw [q49_9, hg0]
      by_cases h4 : (400 : Int32) ≤ nI i
      · rw [if_pos h4]
      · rw [if_neg h4, if_pos (by rw [mj_nIle (by omega) (by omega)]; omega)]
    | succ f ih =>
      intro p i T h TY TV hf hp hip hTi hB h9 hlt hst hfr
      by_cases hpt : t ≤ p
      · exact ih p i T h TY TV (by omega) hp hip hTi hB h9 hlt hst hfr
      · have hg0 : h 159 0 = nI t := by rw [hfr _ _ (by omega) (by omega) (by omega) (by omega)]; exact h0
        have n4 : ¬ (400 : Int32) ≤ nI i := by rw [show (400 : Int32) = nI 400 from rfl, mj_nIle (by omega) (by omega)]; omega
        have n1 : ¬ nI t ≤ nI p := by rw [mj_nIle (by omega) (by omega)]; omega
        have n2 : (0 ≤ nI p ∧ (nI p).toNatClampNeg < 400) := ⟨by rw [mj_nI0 (by omega)]; trivial, by rw [mj_nIc (by omega)]; omega⟩
        have n3 : (nI p).toNatClampNeg = p := mj_nIc (by omega)
        have n2' : (0 ≤ nI p ∧ p < 400) := ⟨n2.1, by omega⟩
        obtain ⟨yp, hyp⟩ := hy p (by omega)
        have hyp' : h 173 p = (nI (y p)).toInt8.toInt32 := by rw [hfr _ _ (by omega) (by omega) (by omega) (by omega)]; exact hyp
        obtain ⟨_, _, _, _, _, _, t32, t10, _⟩ := by_t (y p) yp
        by_cases hws : bW y p = true
        · have hB' : lxB y t (p + 1) = lxB y t (lxP y t T) := by rw [← hB]; exact (lx_t (by omega) hws).symm
          obtain ⟨v1, v2, m, g, TY', TV', e, r⟩ := ih (p + 1) (i + 1) T h TY TV (by omega) (by omega) (by omega) (by omega) hB' h9 hlt hst hfr
          refine ⟨v1, v2, m, g, TY', TV', ?_, r⟩
          rw [← e, q49_9, if_neg n4, hg0, if_neg n1, if_pos n2, n3, hyp']
          unfold bW at hws
          have hws := of_decide_eq_true hws
          by_cases h32 : y p = 32
          · rw [if_pos (t32.mpr h32), q49_46, q49_58, mj_nIs, mj_nIs]
          · have h10 : y p = 10 := by omega
            rw [if_neg (fun z => h32 (t32.mp z)), if_pos n2', if_neg (fun z => z (t10.mpr h10)), q49_46, q49_58, mj_nIs, mj_nIs]
        · have hBp : lxB y t p = p := lx_f (fun z => hws z.2)
          have hPT : lxB y t (lxP y t T) = p := by rw [← hB, hBp]
          have hEl := lxE_ok (y := y) (show p < t by omega)
          obtain ⟨ty, tv, v2', hI, hv2, eC⟩ := s_cutT (E := E) (d := d + 1) (w := w) (c := c) (hi := h) (hl := hl) (y := y) (t := t) (b := p) (T := T) hw hE ht (by omega) hg0 (fun j hj => ⟨(hy j hj).1, by rw [hfr _ _ (by omega) (by omega) (by omega) (by omega)]; exact (hy j hj).2⟩) (by omega) h9
          have hP1 : lxP y t (T + 1) = lxE y t p := by show lxE y t (lxB y t (lxP y t T)) = _; rw [hPT]
          obtain ⟨v1, v2, m, g, TY', TV', e, r⟩ := ih (lxE y t p) (i + 1) (T + 1) (mj_u (mj_u (mj_u (mj_u h 174 T (nI ty)) 175 T v2') 176 T (nI p)) 159 9 (nI (T + 1))) (fun j => if j = T then ty else TY j) (fun j => if j = T then tv else TV j) (by omega) hEl.2.1 (by omega) (by omega) (by rw [hP1]) mj_u_eq (fun j hj => by
              by_cases hjT : j = T
              · rw [hjT, hPT]; omega
              · exact hlt j (by omega)) (fun j hj => by
              by_cases hjT : j = T
              · subst hjT
                show lxI y t w _ (if j = j then ty else TY j) (if j = j then tv else TV j) ∧ _ = nI (if j = j then ty else TY j) ∧ ((if j = j then ty else TY j) < 4 → _ = nI (if j = j then tv else TV j)) ∧ _
                rw [if_pos rfl, if_pos rfl, hPT]
                refine ⟨hI, ?_, fun hlt4 => ?_, ?_⟩
                · rw [mj_u_pt (by omega), mj_u_pt (by omega), mj_u_pt (by omega), mj_u_eq]
                · rw [mj_u_pt (by omega), mj_u_pt (by omega), mj_u_eq]; exact hv2 hlt4
                · rw [mj_u_pt (by omega), mj_u_eq]
              · show lxI y t w _ (if j = T then ty else TY j) (if j = T then tv else TV j) ∧ _ = nI (if j = T then ty else TY j) ∧ ((if j = T then ty else TY j) < 4 → _ = nI (if j = T then tv else TV j)) ∧ _
                rw [if_neg hjT, if_neg hjT]
                obtain ⟨s1, s2, s3, s4⟩ := hst j (by omega)
                refine ⟨s1, ?_, fun hlt4 => ?_, ?_⟩
                · simp (disch := omega) only [mj_u_pt]; exact s2
                · simp (disch := omega) only [mj_u_pt]; exact s3 hlt4
                · simp (disch := omega) only [mj_u_pt]; exact s4) (fun a k a1 a2 a3 a4 => by
              rw [mj_u_pt (by omega), mj_u_pt (by omega), mj_u_pt (by omega), mj_u_pt (by omega)]; exact hfr a k a1 a2 a3 a4)
          refine ⟨v1, v2, m, g, TY', TV', ?_, r⟩
          have hws2 : ¬ (y p = 32 ∨ y p = 10) := fun z => hws (decide_eq_true z)
          have eC' : mj_dc mj_P E (d + 9) 50 [.ref 159, .int (nI p)] (mj_hw w c h hl) = some (some (.int (nI (lxE y t p))), mj_hw w c (mj_u (mj_u (mj_u (mj_u h 174 T (nI ty)) 175 T v2') 176 T (nI p)) 159 9 (nI (T + 1))) hl) := eC
          rw [← e, q49_9, if_neg n4, hg0, if_neg n1, if_pos n2, n3, hyp', if_neg (fun z => hws2 (Or.inl (t32.mp z))), if_pos n2', if_pos (fun z => hws2 (Or.inr (t10.mp z))), q49_52, eC', mj_bi_some, q49_57, q49_58, mj_nIs]
  obtain ⟨v1, v2, m, g, TY, TV, e, m1, m2, m3, m4, m5, m6⟩ := hgo t 0 0 0 (mj_u hi 159 9 0) (fun _ => 0) (fun _ => 0) (by omega) (by omega) (by omega) (by omega) rfl mj_u_eq (fun j hj => absurd hj (by omega)) (fun j hj => absurd hj (by omega)) (fun a k a1 a2 a3 a4 => mj_u_pt (by omega))
  have e' : mj_den mj_P E (d + 9) 49 9 [.ref 159, .int 0, .int 0] [] (mj_hw w c (mj_u hi 159 9 0) hl) = mj_den mj_P E (d + 9) 49 64 [.ref 159, .int v1, .int v2] [] (mj_hw w c g hl) := e
  have g0 : g 159 0 = nI t := by rw [m6 _ _ (by omega) (by omega) (by omega) (by omega)]; exact h0
  refine ⟨mj_u (mj_u (mj_u (mj_u g 174 m 0) 175 m 0) 176 m (nI t)) 159 9 (nI (m + 1)), m, fun j => if j = m then 0 else TY j, fun j => if j = m then 0 else TV j, ?_, mj_u_eq, m1, m4, m2, fun j hj => ?_, fun a k a1 a2 a3 a4 => ?_⟩
  · rw [e49, q49_0, e', q49_64, g0, s_put (by omega) m3, mj_bv_some, q49_74]
  · by_cases hjm : j = m
    · subst hjm
      show lxI y t w _ (if j = j then 0 else TY j) (if j = j then 0 else TV j) ∧ _ = nI (if j = j then 0 else TY j) ∧ ((if j = j then 0 else TY j) < 4 → _ = nI (if j = j then 0 else TV j)) ∧ _
      rw [if_pos rfl, if_pos rfl, m2]
      refine ⟨Or.inl ⟨Nat.le_refl _, rfl, rfl⟩, ?_, fun hlt4 => ?_, ?_⟩
      · rw [mj_u_pt (by omega), mj_u_pt (by omega), mj_u_pt (by omega), mj_u_eq]; rfl
      · rw [mj_u_pt (by omega), mj_u_pt (by omega), mj_u_eq]; rfl
      · rw [mj_u_pt (by omega), mj_u_eq]
    · show lxI y t w _ (if j = m then 0 else TY j) (if j = m then 0 else TV j) ∧ _ = nI (if j = m then 0 else TY j) ∧ ((if j = m then 0 else TY j) < 4 → _ = nI (if j = m then 0 else TV j)) ∧ _
      rw [if_neg hjm, if_neg hjm]
      obtain ⟨s1, s2, s3, s4⟩ := m5 j (by omega)
      refine ⟨s1, ?_, fun hlt4 => ?_, ?_⟩
      · simp (disch := omega) only [mj_u_pt]; exact s2
      · simp (disch := omega) only [mj_u_pt]; exact s3 hlt4
      · simp (disch := omega) only [mj_u_pt]; exact s4
  · rw [mj_u_pt (by omega), mj_u_pt (by omega), mj_u_pt (by omega), mj_u_pt (by omega)]; exact m6 a k a1 a2 a3 a4
end MJZ5
/-- a token as the reference has it -/
def rtk (w ty tv : Nat) (tok val : Int32) : Prop := (ty = 0 ∧ tok = 0) ∨ (ty = 1 ∧ tok = 3 ∧ val = nI tv ∧ tv ≤ 9999) ∨ (ty = 2 ∧ tok = 2 ∧ val = nI (kK w tv) ∧ tv < kN w) ∨ (ty = 3 ∧ tok = 4 ∧ val = nI tv ∧ tv < 256) ∨ (ty = 4 ∧ (tok = 1 ∨ (tok = 2 ∧ ∃ x, x < 25 ∧ val = nI x ∧ ∀ j, j < kN w → x ≠ kK w j)))
theorem kE_un {Y : Nat → Int32} {a b w i j : Nat} (hw : 3 ≤ w ∧ w ≤ 6) (hi : i < kN w) (hj : j < kN w) (h1 : kE Y a b w i) (h2 : kE Y a b w j) : i = j := by
  obtain ⟨i1, i2, i3⟩ := kr hw i hi
  obtain ⟨j1, j2, j3⟩ := kr hw j hj
  refine ki hw i hi j hj (ri _ i1 _ j1 (by rw [← i2, ← j2, ← h1.1, ← h2.1]) (fun r hr => ?_))
  rw [← i2] at hr
  rw [← i3 r hr, ← j3 r (by rw [← h2.1, h1.1]; exact hr), ← h1.2 r hr, ← h2.2 r (by rw [← h2.1, h1.1]; exact hr)]
section MJZ6
variable {E : mj_E} {d w c : Nat} {hi : mj_HI} {hl : Nat → Nat → Int64}
theorem s_raw {y : Nat → Nat} {t p : Nat} (ht : t ≤ 400) (hp : p ≤ 400) (h14 : hi 205 14 = nI t) (hy : ∀ i, i < t → hi 214 i = nI (y i)) : mj_dc mj_P E (d + 1) 177 [.ref 205, .int (nI p)] (mj_hw w c hi hl) = some (some (.int (if p < t then nI (y p) else -1)), mj_hw w c hi hl) := by
  rw [e177, q177_0, h14]
  by_cases h : p < t
  · have n1 : ¬ nI t ≤ nI p := by rw [mj_nIle (by omega) (by omega)]; omega
    have n2 : (0 ≤ nI p ∧ (nI p).toNatClampNeg < 400) := ⟨by rw [mj_nI0 (by omega)]; trivial, by rw [mj_nIc (by omega)]; omega⟩
    rw [if_neg n1, if_pos n2, mj_nIc (by omega), hy p h, q177_18, if_pos h]
  · rw [if_pos (by rw [mj_nIle (by omega) (by omega)]; omega), q177_17, q177_18, if_neg h]
theorem s_letM {y : Nat → Nat} {t p : Nat} (hy : ∀ i, i < t → y i < 256) : mj_dc mj_P E (d + 2) 178 [.ref 205, .int (if p < t then nI (y p) else -1)] (mj_hw w c hi hl) = some (some (.int (if p < t ∧ bL y p = true then 1 else 0)), mj_hw w c hi hl) := by
  by_cases h : p < t
  · have hp := hy p h
    rw [if_pos h]
    have e1 : (97 ≤ nI (y p) ∧ nI (y p) ≤ 122) = (97 ≤ y p ∧ y p ≤ 122) := by rw [show (97 : Int32) = nI 97 from rfl, show (122 : Int32) = nI 122 from rfl, mj_nIle (by omega) (by omega), mj_nIle (by omega) (by omega)]
    have e2 : (65 ≤ nI (y p) ∧ nI (y p) ≤ 90) = (65 ≤ y p ∧ y p ≤ 90) := by rw [show (65 : Int32) = nI 65 from rfl, show (90 : Int32) = nI 90 from rfl, mj_nIle (by omega) (by omega), mj_nIle (by omega) (by omega)]
    by_cases q1 : 97 ≤ y p ∧ y p ≤ 122
    · have hb : bL y p = true := decide_eq_true (Or.inl q1)
      rw [if_pos ⟨h, hb⟩]
      have q1' : (97 ≤ nI (y p) ∧ nI (y p) ≤ 122) := by rw [e1]; exact q1
      rw [e178, q178_0, s_isIn]
      simp only [mj_b, q1', ↓reduceIte, Bool.false_eq_true, eq_self, mj_10, mj_01, mj_n10, mj_0n1, mj_1n1, mj_n11, mj_bi_some, mj_bv_some, mj_bj_some, mj_br_some, mj_r0, mj_r1, mj_q0, mj_q1, mj_b01, mj_q2, if_true, if_false, mj_it, mj_if, true_and, and_true, false_and, and_false, not_true_eq_false, not_false_eq_true, true_or, or_true, false_or, or_false, and_self, decide_true, q178_9, q178_24, q178_29, mj_10]
    · have q1' : ¬ (97 ≤ nI (y p) ∧ nI (y p) ≤ 122) := by rw [e1]; exact q1
      by_cases q2 : 65 ≤ y p ∧ y p ≤ 90
      · have hb : bL y p = true := decide_eq_true (Or.inr q2)
        rw [if_pos ⟨h, hb⟩]
        have q2' : (65 ≤ nI (y p) ∧ nI (y p) ≤ 90) := by rw [e2]; exact q2
        rw [e178, q178_0, s_isIn]
        simp only [mj_b, q1', q2', ↓reduceIte, Bool.false_eq_true, eq_self, mj_10, mj_01, mj_n10, mj_0n1, mj_1n1, mj_n11, mj_bi_some, mj_bv_some, mj_bj_some, mj_br_some, mj_r0, mj_r1, mj_q0, mj_q1, mj_b01, mj_q2, if_true, if_false, mj_it, mj_if, true_and, and_true, false_and, and_false, not_true_eq_false, not_false_eq_true, true_or, or_true, false_or, or_false, and_self, decide_true, decide_false, q178_9, q178_21, q178_24, q178_29, s_isIn, mj_10]
      · have hb : ¬ bL y p = true := fun z => (of_decide_eq_true z).elim q1 q2
        rw [if_neg (fun z => hb z.2)]
        have q2' : ¬ (65 ≤ nI (y p) ∧ nI (y p) ≤ 90) := by rw [e2]; exact q2
        rw [e178, q178_0, s_isIn]
        simp only [mj_b, q1', q2', ↓reduceIte, Bool.false_eq_true, eq_self, mj_10, mj_01, mj_n10, mj_0n1, mj_1n1, mj_n11, mj_bi_some, mj_bv_some, mj_bj_some, mj_br_some, mj_r0, mj_r1, mj_q0, mj_q1, mj_b01, mj_q2, if_true, if_false, mj_it, mj_if, true_and, and_true, false_and, and_false, not_true_eq_false, not_false_eq_true, true_or, or_true, false_or, or_false, decide_false, q178_9, q178_21, q178_28, q178_29, s_isIn]
  · rw [if_neg h, if_neg (fun z => h z.1)]
    have q1' : ¬ ((97 : Int32) ≤ -1 ∧ (-1 : Int32) ≤ 122) := by decide
    have q2' : ¬ ((65 : Int32) ≤ -1 ∧ (-1 : Int32) ≤ 90) := by decide
    rw [e178, q178_0, s_isIn]
    simp only [mj_b, q1', q2', ↓reduceIte, Bool.false_eq_true, eq_self, mj_10, mj_01, mj_n10, mj_0n1, mj_1n1, mj_n11, mj_bi_some, mj_bv_some, mj_bj_some, mj_br_some, mj_r0, mj_r1, mj_q0, mj_q1, mj_b01, mj_q2, if_true, if_false, mj_it, mj_if, true_and, and_true, false_and, and_false, not_true_eq_false, not_false_eq_true, true_or, or_true, false_or, or_false, decide_false, q178_9, q178_21, q178_28, q178_29, s_isIn]
theorem s_digM {y : Nat → Nat} {t p : Nat} (hy : ∀ i, i < t → y i < 256) : mj_dc mj_P E (d + 2) 179 [.ref 205, .int (if p < t then nI (y p) else -1)] (mj_hw w c hi hl) = some (some (.int (if p < t ∧ bG y p = true then 1 else 0)), mj_hw w c hi hl) := by
  by_cases h : p < t
  · have hp := hy p h
    rw [if_pos h]
    have e1 : (48 ≤ nI (y p) ∧ nI (y p) ≤ 57) = (48 ≤ y p ∧ y p ≤ 57) := by rw [show (48 : Int32) = nI 48 from rfl, show (57 : Int32) = nI 57 from rfl, mj_nIle (by omega) (by omega), mj_nIle (by omega) (by omega)]
    by_cases q1 : 48 ≤ y p ∧ y p ≤ 57
    · have hb : bG y p = true := decide_eq_true q1
      rw [if_pos ⟨h, hb⟩]
      have q1' : (48 ≤ nI (y p) ∧ nI (y p) ≤ 57) := by rw [e1]; exact q1
      rw [e179, q179_0, s_isIn]
      simp only [mj_b, q1', ↓reduceIte, Bool.false_eq_true, eq_self, mj_10, mj_01, mj_n10, mj_0n1, mj_1n1, mj_n11, mj_bi_some, mj_bv_some, mj_bj_some, mj_br_some, mj_r0, mj_r1, mj_q0, mj_q1, mj_b01, mj_q2, if_true, if_false, mj_it, mj_if, true_and, and_true, false_and, and_false, not_true_eq_false, not_false_eq_true, true_or, or_true, false_or, or_false, and_self, decide_true, q179_9, mj_10]
    · have q1' : ¬ (48 ≤ nI (y p) ∧ nI (y p) ≤ 57) := by rw [e1]; exact q1
      have hb : ¬ bG y p = true := fun z => q1 (of_decide_eq_true z)
      rw [if_neg (fun z => hb z.2)]
      rw [e179, q179_0, s_isIn]
      simp only [mj_b, q1', ↓reduceIte, Bool.false_eq_true, eq_self, mj_10, mj_01, mj_n10, mj_0n1, mj_1n1, mj_n11, mj_bi_some, mj_bv_some, mj_bj_some, mj_br_some, mj_r0, mj_r1, mj_q0, mj_q1, mj_b01, mj_q2, if_true, if_false, mj_it, mj_if, true_and, and_true, false_and, and_false, not_true_eq_false, not_false_eq_true, true_or, or_true, false_or, or_false, decide_false, q179_9]
  · rw [if_neg h, if_neg (fun z => h z.1)]
    have q1' : ¬ ((48 : Int32) ≤ -1 ∧ (-1 : Int32) ≤ 57) := by decide
    rw [e179, q179_0, s_isIn]
    simp only [mj_b, q1', ↓reduceIte, Bool.false_eq_true, eq_self, mj_10, mj_01, mj_n10, mj_0n1, mj_1n1, mj_n11, mj_bi_some, mj_bv_some, mj_bj_some, mj_br_some, mj_r0, mj_r1, mj_q0, mj_q1, mj_b01, mj_q2, if_true, if_false, mj_it, mj_if, true_and, and_true, false_and, and_false, not_true_eq_false, not_false_eq_true, true_or, or_true, false_or, or_false, decide_false, q179_9]
theorem s_signM {x : Nat} (hx : x < 256) : mj_dc mj_P E (d + 1) 180 [.ref 205, .int (nI x)] (mj_hw w c hi hl) = some (some (.int (if bS x = true then 1 else 0)), mj_hw w c hi hl) := by
  have he : ∀ k : Nat, k < 256 → (nI x = nI k) = (x = k) := fun k hk => mj_nIeq (by omega) (by omega)
  have h59 := he 59 (by omega)
  rw [e180, q180_0]
  have h60 : mj_den mj_P E d 180 60 [.ref 205, .int (nI x)] [] (mj_hw w c hi hl) = some (some (.int 1), mj_hw w c hi hl) := by rw [q180_60, q180_65, if_pos (Or.inr rfl)]
  have h64 : mj_den mj_P E d 180 64 [.ref 205, .int (nI x)] [] (mj_hw w c hi hl) = some (some (.int 0), mj_hw w c hi hl) := by rw [q180_64, q180_65, if_pos (Or.inl rfl)]
  rw [h60, h64]
  unfold bS
  rw [show (59 : Int32) = nI 59 from rfl, show (43 : Int32) = nI 43 from rfl, show (45 : Int32) = nI 45 from rfl, show (42 : Int32) = nI 42 from rfl, show (47 : Int32) = nI 47 from rfl, show (40 : Int32) = nI 40 from rfl, show (41 : Int32) = nI 41 from rfl, show (60 : Int32) = nI 60 from rfl, show (61 : Int32) = nI 61 from rfl, show (62 : Int32) = nI 62 from rfl]
  simp only [he 59 (by omega), he 43 (by omega), he 45 (by omega), he 42 (by omega), he 47 (by omega), he 40 (by omega), he 41 (by omega), he 60 (by omega), he 61 (by omega), he 62 (by omega)]
  by_cases q1 : x = 59
  · simp [q1]
  · by_cases q2 : x = 43
    · simp [q2]
    · by_cases q3 : x = 45
      · simp [q3]
      · by_cases q4 : x = 42
        · simp [q4]
        · by_cases q5 : x = 47
          · simp [q5]
          · by_cases q6 : x = 40
            · simp [q6]
            · by_cases q7 : x = 41
              · simp [q7]
              · by_cases q8 : x = 60
                · simp [q8]
                · by_cases q9 : x = 61
                  · simp [q9]
                  · by_cases q10 : x = 62
                    · simp [q10]
                    · simp [q1, q2, q3, q4, q5, q6, q7, q8, q9, q10]
end MJZ6
