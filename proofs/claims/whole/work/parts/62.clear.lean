/-! whom one drags out, those again, and so on -/
def wk_T (f t : Nat → Nat) (p W s : Nat) : Nat := s ||| (wv_pn f t s p &&& W)
def wk_I (f t : Nat → Nat) (p W : Nat) : Nat → Nat → Nat
  | 0, s => s
  | r + 1, s => wk_I f t p W r (wk_T f t p W s)
theorem wk_I_s (f t : Nat → Nat) (p W r s : Nat) : wk_I f t p W (r + 1) s = wk_I f t p W r (wk_T f t p W s) := rfl
theorem wk_I_c (f t : Nat → Nat) (p W : Nat) : ∀ r s, wk_I f t p W (r + 1) s = wk_T f t p W (wk_I f t p W r s) := by
  intro r
  induction r with
  | zero => intro s; rfl
  | succ r ih => intro s; rw [wk_I_s, ih]; rfl
theorem wk_T_bit (f t : Nat → Nat) (p W s j : Nat) : (wk_T f t p W s).testBit j = true ↔ s.testBit j = true ∨ ((∃ i, i < p ∧ s.testBit (f i) = true ∧ t i = j) ∧ W.testBit j = true) := by
  unfold wk_T
  rw [Nat.testBit_or, Bool.or_eq_true, Nat.testBit_and, Bool.and_eq_true, wv_pn_bit]
theorem wk_T_sub (f t : Nat → Nat) (p W s j : Nat) (h : s.testBit j = true) : (wk_T f t p W s).testBit j = true := (wk_T_bit f t p W s j).mpr (Or.inl h)
theorem wk_I_sub (f t : Nat → Nat) (p W : Nat) : ∀ r s j, s.testBit j = true → (wk_I f t p W r s).testBit j = true := by
  intro r
  induction r with
  | zero => intro s j h; exact h
  | succ r ih => intro s j h; exact ih _ j (wk_T_sub _ _ _ _ _ _ h)
/-- what is reached is reached from one of them -/
theorem wk_T_one (f t : Nat → Nat) (p W s j : Nat) : (wk_T f t p W s).testBit j = true ↔ ∃ d, s.testBit d = true ∧ (wk_T f t p W (2 ^ d)).testBit j = true := by
  rw [wk_T_bit]
  constructor
  · rintro (h | ⟨⟨i, h1, h2, h3⟩, h4⟩)
    · exact ⟨j, h, (wk_T_bit _ _ _ _ _ _).mpr (Or.inl (by rw [Nat.testBit_two_pow]; exact decide_eq_true rfl))⟩
    · exact ⟨f i, h2, (wk_T_bit _ _ _ _ _ _).mpr (Or.inr ⟨⟨i, h1, by rw [Nat.testBit_two_pow]; exact decide_eq_true rfl, h3⟩, h4⟩)⟩
  · rintro ⟨d, h1, h2⟩
    rcases (wk_T_bit _ _ _ _ _ _).mp h2 with h | ⟨⟨i, h3, h4, h5⟩, h6⟩
    · rw [Nat.testBit_two_pow] at h
      have := of_decide_eq_true h
      subst this; exact Or.inl h1
    · rw [Nat.testBit_two_pow] at h4
      have := of_decide_eq_true h4
      subst this; exact Or.inr ⟨⟨i, h3, h1, h5⟩, h6⟩
theorem wk_I_one (f t : Nat → Nat) (p W : Nat) : ∀ r s j, (wk_I f t p W r s).testBit j = true ↔ ∃ d, s.testBit d = true ∧ (wk_I f t p W r (2 ^ d)).testBit j = true := by
  intro r
  induction r with
  | zero =>
    intro s j
    constructor
    · intro h; exact ⟨j, h, by show (2 ^ j).testBit j = true; rw [Nat.testBit_two_pow]; exact decide_eq_true rfl⟩
    · rintro ⟨d, h1, h2⟩
      have h2 : (2 ^ d).testBit j = true := h2
      rw [Nat.testBit_two_pow] at h2
      have := of_decide_eq_true h2
      subst this; exact h1
  | succ r ih =>
    intro s j
    rw [wk_I_s, ih]
    constructor
    · rintro ⟨e, h1, h2⟩
      obtain ⟨d, h3, h4⟩ := (wk_T_one _ _ _ _ _ _).mp h1
      exact ⟨d, h3, by rw [wk_I_s, ih]; exact ⟨e, h4, h2⟩⟩
    · rintro ⟨d, h1, h2⟩
      rw [wk_I_s, ih] at h2
      obtain ⟨e, h3, h4⟩ := h2
      exact ⟨e, (wk_T_one _ _ _ _ _ _).mpr ⟨d, h1, h3⟩, h4⟩
theorem wk_T_lt {f t : Nat → Nat} {p W s b : Nat} (hs : s < 2 ^ b) (hW : W < 2 ^ b) : wk_T f t p W s < 2 ^ b :=
  Nat.or_lt_two_pow hs (Nat.and_lt_two_pow _ hW)
theorem wk_I_lt {f t : Nat → Nat} {p W b : Nat} (hW : W < 2 ^ b) : ∀ r s, s < 2 ^ b → wk_I f t p W r s < 2 ^ b := by
  intro r
  induction r with
  | zero => intro s h; exact h
  | succ r ih => intro s h; exact ih _ (wk_T_lt h hW)
theorem iv_cnt_lt {p q : Nat → Bool} {n k : Nat} (hk : k < n) (h : ∀ i, i < n → p i = true → q i = true) (hp : p k = false) (hq : q k = true) : iv_cnt p n < iv_cnt q n := by
  induction n with
  | zero => omega
  | succ n ih =>
    rw [iv_cnt_s, iv_cnt_s]
    by_cases hkn : k = n
    · subst hkn
      have := iv_cnt_mono k (fun i hi => h i (by omega))
      rw [hp, hq]; simp only [Bool.false_eq_true, if_false, if_true]; omega
    · have h1 := ih (by omega) (fun i hi => h i (by omega))
      have h2 := h n (by omega)
      by_cases hpn : p n = true
      · rw [if_pos hpn, if_pos (h2 hpn)]; omega
      · rw [if_neg hpn]; omega
/-- a set with fewer members -/
theorem wk_pc_lt {a b n : Nat} (ha : a < 2 ^ n) (hb : b < 2 ^ n) (h : ∀ j, a.testBit j = true → b.testBit j = true) (hne : a ≠ b) : mj_pc n a < mj_pc n b := by
  have : ∃ k, ¬ (b.testBit k = true → a.testBit k = true) := by
    refine Classical.byContradiction (fun hno => hne (Nat.eq_of_testBit_eq (fun i => ?_)))
    rw [Bool.eq_iff_iff]
    exact ⟨h i, Classical.byContradiction (fun z => hno ⟨i, z⟩)⟩
  obtain ⟨k, hk⟩ := this
  have hb1 : b.testBit k = true := Classical.byContradiction (fun z => hk (fun y => absurd y z))
  have ha1 : a.testBit k = false := by
    cases hz : a.testBit k with
    | false => rfl
    | true => exact absurd (fun _ => hz) hk
  have hkn : k < n := Nat.lt_of_not_le (fun z => by
    rw [Nat.testBit_lt_two_pow (Nat.lt_of_lt_of_le hb (Nat.pow_le_pow_right (by omega) z))] at hb1; cases hb1)
  exact iv_cnt_lt hkn (fun i _ => h i) ha1 hb1
theorem wk_pc_le {a b n : Nat} (h : ∀ j, a.testBit j = true → b.testBit j = true) : mj_pc n a ≤ mj_pc n b := iv_cnt_mono n (fun i _ => h i)
theorem wk_grow {f t : Nat → Nat} {p W s : Nat} (hW : W < 2 ^ 10) (hs : s < 2 ^ 10) (h0 : s ≠ 0) : ∀ r, wk_T f t p W (wk_I f t p W r s) = wk_I f t p W r s ∨ r + 1 ≤ mj_pc 10 (wk_I f t p W r s) := by
  intro r
  induction r with
  | zero =>
    right
    have h1 : mj_pc 10 0 < mj_pc 10 s := wk_pc_lt (by omega) hs (fun j h => by rw [Nat.zero_testBit] at h; cases h) (Ne.symm h0)
    show 0 + 1 ≤ mj_pc 10 s
    omega
  | succ r ih =>
    by_cases hc : wk_T f t p W (wk_I f t p W r s) = wk_I f t p W r s
    · left; rw [wk_I_c, hc, hc]
    · right
      have h1 := ih.resolve_left hc
      have h2 := wk_pc_lt (wk_I_lt (f := f) (t := t) (p := p) hW r s hs) (wk_T_lt (f := f) (t := t) (p := p) (wk_I_lt (f := f) (t := t) (p := p) hW r s hs) hW) (fun j => wk_T_sub f t p W _ j) (Ne.symm hc)
      rw [wk_I_c]; omega
theorem wk_closed {f t : Nat → Nat} {p W s : Nat} (hW : W < 2 ^ 10) (hs : s < 2 ^ 10) : wk_T f t p W (wk_I f t p W 10 s) = wk_I f t p W 10 s := by
  by_cases h0 : s = 0
  · subst h0
    have hT : wk_T f t p W 0 = 0 := by
      apply Nat.eq_of_testBit_eq
      intro j
      rw [Bool.eq_iff_iff, wk_T_bit, Nat.zero_testBit]
      constructor
      · rintro (h | ⟨⟨i, h1, h2, h3⟩, _⟩)
        · exact h
        · rw [Nat.zero_testBit] at h2; exact h2
      · intro h; exact Or.inl h
    have hz : ∀ r, wk_I f t p W r 0 = 0 := by
      intro r
      induction r with
      | zero => rfl
      | succ r ih => rw [wk_I_s, hT, ih]
    rw [hz]; exact hT
  · rcases wk_grow (f := f) (t := t) (p := p) hW hs h0 10 with h | h
    · exact h
    · have := iv_cnt_bd (fun i => (wk_I f t p W 10 s).testBit i) 10
      have h2 : mj_pc 10 (wk_I f t p W 10 s) ≤ 10 := this
      omega
theorem wk_fix {f t : Nat → Nat} {p W s : Nat} {r : Nat} (h : wk_T f t p W (wk_I f t p W r s) = wk_I f t p W r s) : ∀ k, wk_I f t p W (r + k) s = wk_I f t p W r s := by
  intro k
  induction k with
  | zero => rfl
  | succ k ih => rw [show r + (k + 1) = (r + k) + 1 by omega, wk_I_c, ih, h]
/-- the first time that nothing comes to it -/
theorem wk_stop {f t : Nat → Nat} {p W s : Nat} (hW : W < 2 ^ 10) (hs : s < 2 ^ 10) : ∃ k, wk_T f t p W (wk_I f t p W k s) = wk_I f t p W k s ∧ (∀ i, i < k → wk_T f t p W (wk_I f t p W i s) ≠ wk_I f t p W i s) ∧ wk_I f t p W k s = wk_I f t p W 10 s := by
  rcases lp_fst (fun k => wk_T f t p W (wk_I f t p W k s) = wk_I f t p W k s) 11 with h | ⟨k, h1, h2, h3⟩
  · exact absurd (wk_closed hW hs) (h 10 (by omega))
  · refine ⟨k, h2, h3, ?_⟩
    have := wk_fix h2 (10 - k)
    rw [show k + (10 - k) = 10 by omega] at this
    exact this.symm
/-- a closed set that holds d holds all that d reaches -/
theorem wk_min {f t : Nat → Nat} {p W Z : Nat} (hZ : wk_T f t p W Z = Z) : ∀ r s, (∀ j, s.testBit j = true → Z.testBit j = true) → ∀ j, (wk_I f t p W r s).testBit j = true → Z.testBit j = true := by
  intro r
  induction r with
  | zero => intro s h j hj; exact h j hj
  | succ r ih =>
    intro s h j hj
    refine ih (wk_T f t p W s) (fun i hi => ?_) j hj
    rcases (wk_T_bit _ _ _ _ _ _).mp hi with h1 | ⟨⟨a, h1, h2, h3⟩, h4⟩
    · exact h i h1
    · rw [← hZ]; exact (wk_T_bit _ _ _ _ _ _).mpr (Or.inr ⟨⟨a, h1, h _ h2, h3⟩, h4⟩)
/-- one round of the edges makes one step more -/
theorem wk_next {f t : Nat → Nat} {p W d r j : Nat} (h : (wk_I f t p W (r + 1) (2 ^ d)).testBit j = true) : (wk_I f t p W r (2 ^ d)).testBit j = true ∨ ∃ i, i < p ∧ f i = d ∧ W.testBit (t i) = true ∧ (wk_I f t p W r (2 ^ t i)).testBit j = true := by
  rw [wk_I_s, wk_I_one] at h
  obtain ⟨e, h1, h2⟩ := h
  rcases (wk_T_bit _ _ _ _ _ _).mp h1 with h3 | ⟨⟨i, h3, h4, h5⟩, h6⟩
  · rw [Nat.testBit_two_pow] at h3
    have := of_decide_eq_true h3
    subst this; exact Or.inl h2
  · rw [Nat.testBit_two_pow] at h4
    have h7 := of_decide_eq_true h4
    subst h5; exact Or.inr ⟨i, h3, h7.symm, h6, h2⟩
/-- what a dealer that is there reaches, none for one who is not -/
def wk_D (f t : Nat → Nat) (p W d : Nat) : Nat := if W.testBit d = true then wk_I f t p W 10 (2 ^ d) else 0
/-- a set clears the room -/
def wk_C (f t : Nat → Nat) (p W s : Nat) : Prop := ∀ j, W.testBit j = true → (wk_I f t p W 10 (s &&& W)).testBit j = true
theorem wk_cov {f t : Nat → Nat} {p W s m : Nat} (hm : W < 2 ^ m) : mj_df W (wc_u (wk_D f t p W) s m) = 0 ↔ wk_C f t p W s := by
  constructor
  · intro h j hj
    have h1 : (mj_df W (wc_u (wk_D f t p W) s m)).testBit j = false := by rw [h, Nat.zero_testBit]
    rw [mj_df_bit, hj, Bool.true_and] at h1
    have h2 : (wc_u (wk_D f t p W) s m).testBit j = true := by
      cases hz : (wc_u (wk_D f t p W) s m).testBit j with
      | true => rfl
      | false => rw [hz] at h1; cases h1
    obtain ⟨i, h3, h4, h5⟩ := (wc_u_bit _ _ _ _).mp h2
    unfold wk_D at h5
    by_cases hw : W.testBit i = true
    · rw [if_pos hw] at h5
      rw [wk_I_one]
      exact ⟨i, by rw [Nat.testBit_and, h4, hw]; rfl, h5⟩
    · rw [if_neg hw, Nat.zero_testBit] at h5; cases h5
  · intro h
    apply Nat.eq_of_testBit_eq
    intro j
    rw [Nat.zero_testBit, mj_df_bit]
    by_cases hj : W.testBit j = true
    · obtain ⟨d, h1, h2⟩ := (wk_I_one _ _ _ _ _ _ _).mp (h j hj)
      rw [Nat.testBit_and, Bool.and_eq_true] at h1
      have hd : d < m := Nat.lt_of_not_le (fun z => by
        have := h1.2
        rw [Nat.testBit_lt_two_pow (Nat.lt_of_lt_of_le hm (Nat.pow_le_pow_right (by omega) z))] at this; cases this)
      have : (wc_u (wk_D f t p W) s m).testBit j = true := (wc_u_bit _ _ _ _).mpr ⟨d, hd, h1.1, by unfold wk_D; rw [if_pos h1.2]; exact h2⟩
      rw [this, hj]; rfl
    · have : W.testBit j = false := by simpa using hj
      rw [this]; rfl
theorem wk_sub_le {a b : Nat} (h : ∀ j, a.testBit j = true → b.testBit j = true) : a ≤ b := by
  have : a &&& b = a := by
    apply Nat.eq_of_testBit_eq
    intro j
    rw [Nat.testBit_and]
    cases ha : a.testBit j with
    | false => rfl
    | true => rw [h j ha]; rfl
  rw [← this]; exact Nat.and_le_right
/-- what the class finds is the fewest, the least of several -/
theorem wc_f_min (U : Nat → Nat) (W : Nat) : ∀ s, s ≤ 4096 → (wc_f U W s = -1 → ∀ r, r < s → mj_df W (U r) ≠ 0) ∧ (∀ f, f < 4096 → wc_f U W s = nI f → f < s ∧ mj_df W (U f) = 0 ∧ ∀ r, r < s → r < 4096 → mj_df W (U r) = 0 → mj_pc 12 f ≤ mj_pc 12 r ∧ (mj_pc 12 f = mj_pc 12 r → f ≤ r)) := by
  intro s
  induction s with
  | zero => intro _; exact ⟨fun _ r hr => absurd hr (by omega), fun f hf h => absurd h.symm (by show ¬ nI f = -1; rw [mj_nIn (by omega)]; exact fun z => z)⟩
  | succ s ih =>
    intro hs4
    obtain ⟨i1, i2⟩ := ih (by omega)
    rw [wc_f_s]
    by_cases hc : (wc_f U W s = -1 ∨ mj_pc 12 s < mj_pc 12 (wc_f U W s).toNatClampNeg) ∧ mj_df W (U s) = 0
    · rw [if_pos hc]
      have hs : s < 4096 := by omega
      · refine ⟨fun z => absurd z (by rw [mj_nIn (by omega)]; exact fun y => y), fun f hf h => ?_⟩
        rw [mj_nIeq (by omega) (by omega)] at h
        subst h
        refine ⟨by omega, hc.2, fun r hr hr2 hd => ?_⟩
        by_cases hrs : r = s
        · subst hrs; exact ⟨Nat.le_refl _, fun _ => Nat.le_refl _⟩
        · rcases hc.1 with h1 | h1
          · exact absurd hd (i1 h1 r (by omega))
          · rcases wc_f_lt U W s with h2 | ⟨g, g1, g2⟩
            · exact absurd hd (i1 h2 r (by omega))
            · rw [g2, mj_nIc (by omega)] at h1
              obtain ⟨_, _, h3⟩ := i2 g (by omega) g2
              have := h3 r (by omega) hr2 hd
              omega
    · rw [if_neg hc]
      refine ⟨fun z r hr hd => ?_, fun f hf h => ?_⟩
      · by_cases hrs : r = s
        · subst hrs; exact hc ⟨Or.inl z, hd⟩
        · exact i1 z r (by omega) hd
      · obtain ⟨h1, h2, h3⟩ := i2 f hf h
        refine ⟨by omega, h2, fun r hr hr2 hd => ?_⟩
        by_cases hrs : r = s
        · subst hrs
          have : ¬ mj_pc 12 r < mj_pc 12 f := fun z => hc ⟨Or.inr (by rw [h, mj_nIc (by omega)]; exact z), hd⟩
          exact ⟨by omega, fun _ => by omega⟩
        · exact h3 r (by omega) hr2 hd
