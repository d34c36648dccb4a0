/-! a text from its start -/
theorem lxB_le {y : Nat → Nat} {t p : Nat} (h : p ≤ t) : lxB y t p ≤ t := (lx_ok (bW y) t (t - p) p rfl).2.1 h
theorem lxE_le {y : Nat → Nat} {t b : Nat} : lxE y t b ≤ t := by
  by_cases h : t ≤ b
  · unfold lxE; rw [if_pos h]; exact Nat.le_refl _
  · exact (lxE_ok (by omega)).2.1
theorem lxP_le {y : Nat → Nat} {t : Nat} : ∀ i, lxP y t i ≤ t
  | 0 => Nat.zero_le _
  | _ + 1 => lxE_le
theorem lxI_bd {y : Nat → Nat} {t w b ty tv : Nat} (hy : ∀ i, i < t → y i < 256) (h : lxI y t w b ty tv) : ty ≤ 4 ∧ (ty < 4 → tv ≤ 9999) ∧ (ty = 2 → tv < kN w) ∧ (ty = 3 → tv < 256) := by
  have kw : kN w ≤ 17 := by unfold kN; split <;> (try split) <;> (try split) <;> omega
  rcases h with ⟨a1, a2, a3⟩ | ⟨a1, a2, a3⟩ | ⟨a1, a2, a3, a4⟩ | ⟨a1, a2, a3, a4⟩
  · subst a2 a3; exact ⟨by omega, fun _ => by omega, fun z => by omega, fun z => by omega⟩
  · rcases a3 with ⟨c1, c2, _⟩ | ⟨c1, _⟩
    · subst c1; exact ⟨by omega, fun _ => by omega, fun _ => c2, fun z => by omega⟩
    · subst c1; exact ⟨by omega, fun z => by omega, fun z => by omega, fun z => by omega⟩
  · rcases a4 with ⟨c1, c2, c3⟩ | ⟨c1, _⟩
    · subst c1
      have hd := (lxE_ok a1).2.2.2 a2 a3
      have k := nmb_bd (y := y) (b := b) (lxE y t b - b) (fun q hq => by have := hd (b + q) (by omega) (by omega); unfold bG at this; simp at this; omega)
      have k2 : 10 ^ (lxE y t b - b) ≤ 10 ^ 4 := Nat.pow_le_pow_right (by omega) c2
      have k3 : (10 : Nat) ^ 4 = 10000 := rfl
      exact ⟨by omega, fun _ => by rw [c3]; omega, fun z => by omega, fun z => by omega⟩
    · subst c1; exact ⟨by omega, fun z => by omega, fun z => by omega, fun z => by omega⟩
  · rcases a4 with ⟨c1, _, c3⟩ | ⟨c1, _⟩
    · subst c1; have := hy _ a1; exact ⟨by omega, fun _ => by omega, fun z => by omega, fun _ => by omega⟩
    · subst c1; exact ⟨by omega, fun z => by omega, fun z => by omega, fun z => by omega⟩
def bgN (k : Nat) : Nat := if k = 0 ∨ k = 3 then 2 else 0
section MJZ29
variable {E : mj_E} {d d' w w' c : Nat} {hl : Nat → Nat → Int64}
theorem s_startX {y : Nat → Nat} {t k : Nat} {h : mj_HI} {v2 v3 : Int32} (hk : k < 4) (hE : mj_EK E) (ht : t ≤ 400) (h0 : h 159 0 = nI t) (hy : ∀ i, i < t → y i < 256 ∧ h 173 i = (nI (y i)).toInt8.toInt32) : ∃ (m : Nat) (TY TV BG : Nat → Nat) (g : mj_HI), txG (3 + k) y t m TY TV BG ∧ mj_dc mj_P E (d + 12) 48 [.ref 159, .int (nI k), .int v2, .int v3] (mj_hw w c h hl) = mj_den mj_P E (d + 11) 48 105 [.ref 159, .int (nI k), .int v2, .int v3, .int (nI (bgN k)), .int 0, .float 0] [] (mj_hw (3 + k) c g hl) ∧ XS m TY TV BG 0 0 g ∧ g 160 0 = 0 ∧ g 169 0 = 0 ∧ g 159 7 = v2 ∧ g 159 8 = v3 ∧ (∀ a z, ¬ (159 ≤ a ∧ a ≤ 172) → ¬ (174 ≤ a ∧ a ≤ 176) → g a z = h a z) ∧ ∀ z, z ≤ 2 → g 159 z = h 159 z := by
  obtain ⟨h1, hh1⟩ : ∃ h1, h1 = mj_u (mj_u h 159 7 v2) 159 8 v3 := ⟨_, rfl⟩
  obtain ⟨g, m, TY, TV, ec, c9, cm, cl1, cl2, ci, cf⟩ := s_cut (E := E) (d := d + 1) (w := 3 + k) (c := c) (hl := hl) (hi := h1) (y := y) (t := t) (by omega) hE ht (by rw [hh1, mj_u_pt (by omega), mj_u_pt (by omega)]; exact h0) (fun i hi => ⟨(hy i hi).1, by rw [hh1, mj_u_pt (by omega), mj_u_pt (by omega)]; exact (hy i hi).2⟩)
  have hG : txG (3 + k) y t m TY TV (fun i => lxB y t (lxP y t i)) := by
    refine ⟨by omega, ht, cm, fun i hi => ⟨rfl, lxP_le i, (ci i hi).1, lxB_le (lxP_le i)⟩, fun i hi z => ?_, ?_, fun i hi => lxI_bd (fun j hj => (hy j hj).1) (ci i hi).1⟩
    · rcases (ci i (by omega)).1 with q | q | q | q
      · have := cl1 i hi; omega
      · rcases q.2.2 with q' | q' <;> omega
      · rcases q.2.2.2 with q' | q' <;> omega
      · rcases q.2.2.2 with q' | q' <;> omega
    · rcases (ci m (Nat.le_refl _)).1 with q | q | q | q
      · exact q.2.1
      · omega
      · omega
      · omega
  obtain ⟨g1, hg1⟩ : ∃ g1, g1 = mj_u (mj_u (mj_u (mj_u g 160 0 0) 160 1 0) 169 0 0) 159 10 (-1) := ⟨_, rfl⟩
  have f1 : ∀ a z, a ≠ 160 → a ≠ 169 → ¬ (a = 159 ∧ z = 10) → g1 a z = g a z := fun a z z1 z2 z3 => by rw [hg1, mj_u_pt (by omega), mj_u_pt (by omega), mj_u_pt (by omega), mj_u_pt (by omega)]
  have hC : txC m TY TV (fun i => lxB y t (lxP y t i)) g1 := ⟨by rw [f1 _ _ (by omega) (by omega) (by omega)]; exact c9, fun i hi => by rw [f1 _ _ (by omega) (by omega) (by omega), f1 _ _ (by omega) (by omega) (by omega), f1 _ _ (by omega) (by omega) (by omega)]; exact (ci i hi).2⟩
  obtain ⟨g2, e2, A2, _, fr2⟩ := s_stepX (E := E) (d := d + 10) (w' := 3 + k) (c := c) (hl := hl) (j := 0) hG hC (by rw [hg1, mj_u_eq]; rfl) (Nat.zero_le _)
  have ff : ∀ a z, ¬ (159 ≤ a ∧ a ≤ 172) → ¬ (174 ≤ a ∧ a ≤ 176) → g2 a z = h a z := fun a z z1 z2 => by rw [fr2 _ _ (by omega), f1 _ _ (by omega) (by omega) (by omega), cf _ _ (by omega) (by omega) (by omega) (by omega), hh1, mj_u_pt (by omega), mj_u_pt (by omega)]
  have e159 : ∀ z, z < 9 → g2 159 z = h1 159 z := fun z hz => by rw [fr2 _ _ (by omega), f1 _ _ (by omega) (by omega) (by omega), cf _ _ (by omega) (by omega) (by omega) (by omega)]
  refine ⟨m, TY, TV, _, g2, hG, ?_, ⟨txC_c hC (fun a z hz => fr2 _ _ (by omega)), A2, Nat.zero_le _, by rw [fr2 _ _ (by omega), hg1, mj_u_pt (by omega), mj_u_pt (by omega), mj_u_eq]; rfl⟩, by rw [fr2 _ _ (by omega), hg1, mj_u_pt (by omega), mj_u_pt (by omega), mj_u_pt (by omega), mj_u_eq], by rw [fr2 _ _ (by omega), hg1, mj_u_pt (by omega), mj_u_eq], by rw [e159 _ (by omega), hh1, mj_u_pt (by omega), mj_u_eq], by rw [e159 _ (by omega), hh1, mj_u_eq], ff, fun z hz => by rw [e159 _ (by omega), hh1, mj_u_pt (by omega), mj_u_pt (by omega)]⟩
  rcases (by omega : k = 0 ∨ k = 1 ∨ k = 2 ∨ k = 3) with rfl | rfl | rfl | rfl
  · have k1 : mj_dc mj_P E (d + 12) 48 [.ref 159, .int 0, .int v2, .int v3] (mj_hw w c h hl) = mj_den mj_P E (d + 11) 48 105 [.ref 159, .int 0, .int v2, .int v3, .int 2, .int 0, .float 0] [] (mj_hw 3 c g2 hl) := by
      rw [e48, q48_0, if_neg (fun z => z rfl), q48_32, ← hh1, ec, mj_bv_some, q48_49, ← hg1, e2, mj_bv_some, q48_82, if_neg (fun z => z rfl), q48_100]
    exact k1
  · have k1 : mj_dc mj_P E (d + 12) 48 [.ref 159, .int 1, .int v2, .int v3] (mj_hw w c h hl) = mj_den mj_P E (d + 11) 48 105 [.ref 159, .int 1, .int v2, .int v3, .int 0, .int 0, .float 0] [] (mj_hw 4 c g2 hl) := by
      rw [e48, q48_0, if_pos (by decide), q48_10, if_neg (fun z => z rfl), q48_32_1, ← hh1, ec, mj_bv_some, q48_49, ← hg1, e2, mj_bv_some, q48_82, if_pos (by decide), q48_90, if_pos (by decide), q48_99, q48_100]
    exact k1
  · have k1 : mj_dc mj_P E (d + 12) 48 [.ref 159, .int 2, .int v2, .int v3] (mj_hw w c h hl) = mj_den mj_P E (d + 11) 48 105 [.ref 159, .int 2, .int v2, .int v3, .int 0, .int 0, .float 0] [] (mj_hw 5 c g2 hl) := by
      rw [e48, q48_0, if_pos (by decide), q48_10, if_pos (by decide), q48_20, if_neg (fun z => z rfl), q48_32_2, ← hh1, ec, mj_bv_some, q48_49, ← hg1, e2, mj_bv_some, q48_82, if_pos (by decide), q48_90, if_pos (by decide), q48_99, q48_100]
    exact k1
  · have k1 : mj_dc mj_P E (d + 12) 48 [.ref 159, .int 3, .int v2, .int v3] (mj_hw w c h hl) = mj_den mj_P E (d + 11) 48 105 [.ref 159, .int 3, .int v2, .int v3, .int 2, .int 0, .float 0] [] (mj_hw 6 c g2 hl) := by
      rw [e48, q48_0, if_pos (by decide), q48_10, if_pos (by decide), q48_20, if_pos (by decide), q48_30, q48_32_3, ← hh1, ec, mj_bv_some, q48_49, ← hg1, e2, mj_bv_some, q48_82, if_pos (by decide), q48_90, if_neg (fun z => z rfl), q48_100]
    exact k1
/-- the reference's first token -/
theorem s_startM {y : Nat → Nat} {t m w0 : Nat} {TY TV BG : Nat → Nat} {g hm : mj_HI} (hG : txG w0 y t m TY TV BG) (h14 : hm 205 14 = nI t) (hy : ∀ i, i < t → y i < 256 ∧ hm 214 i = nI (y i)) (h215 : ∀ k, k < 132 → hm 215 k = rV k) : ∃ hm' : mj_HI, mj_dc mj_P E (d + 4) 182 [.ref 205] (mj_hw w c (mj_u (mj_u (mj_u (mj_u (mj_u (mj_u (mj_u hm 205 0 0) 205 34 0) 205 35 (-1)) 205 15 0) 205 28 0) 205 29 0) 205 27 0) hl) = some (none, mj_hw w c hm' hl) ∧ MS w0 y t TY TV BG 0 0 g hm' ∧ hm' 205 29 = 0 ∧ hm' 205 27 = 0 ∧ hm' 205 34 = 0 ∧ hm' 205 35 = -1 ∧ ∀ a k, ¬ (a = 205 ∧ (k = 0 ∨ k = 34 ∨ k = 35 ∨ (15 ≤ k ∧ k ≤ 18) ∨ k = 28 ∨ k = 29 ∨ k = 27)) → hm' a k = hm a k := by
  obtain ⟨h1, hh1⟩ : ∃ h1, h1 = mj_u (mj_u (mj_u (mj_u (mj_u (mj_u (mj_u hm 205 0 0) 205 34 0) 205 35 (-1)) 205 15 0) 205 28 0) 205 29 0) 205 27 0 := ⟨_, rfl⟩
  have f1 : ∀ a k, ¬ (a = 205 ∧ (k = 0 ∨ k = 34 ∨ k = 35 ∨ k = 15 ∨ k = 28 ∨ k = 29 ∨ k = 27)) → h1 a k = hm a k := fun a k z => by rw [hh1, mj_u_pt (by omega), mj_u_pt (by omega), mj_u_pt (by omega), mj_u_pt (by omega), mj_u_pt (by omega), mj_u_pt (by omega), mj_u_pt (by omega)]
  have hM : txM t y h1 := ⟨by rw [f1 _ _ (by omega)]; exact h14, fun i hi => ⟨(hy i hi).1, by rw [f1 _ _ (by omega)]; exact (hy i hi).2⟩, fun k hk => by rw [f1 _ _ (by omega)]; exact h215 k hk⟩
  obtain ⟨h2, e2, B2, fr2⟩ := s_stepM (E := E) (d := d) (w' := w) (c := c) (hl := hl) (j := 0) hG hM (by rw [hh1, mj_u_pt (by omega), mj_u_pt (by omega), mj_u_pt (by omega), mj_u_eq]; rfl) (Nat.zero_le _)
  rw [← hh1]
  refine ⟨h2, e2, ⟨txM_c hM (fun a k z => fr2 _ _ (by omega)), B2, by rw [fr2 _ _ (by omega), hh1, mj_u_pt (by omega), mj_u_pt (by omega), mj_u_eq]; rfl, fun k hk => by omega⟩, by rw [fr2 _ _ (by omega), hh1, mj_u_pt (by omega), mj_u_eq], by rw [fr2 _ _ (by omega), hh1, mj_u_eq], ?_, ?_, fun a k z => by rw [fr2 _ _ (by omega), f1 _ _ (by omega)]⟩
  · rw [fr2 _ _ (by omega), hh1, mj_u_pt (by omega), mj_u_pt (by omega), mj_u_pt (by omega), mj_u_pt (by omega), mj_u_pt (by omega), mj_u_eq]
  · rw [fr2 _ _ (by omega), hh1, mj_u_pt (by omega), mj_u_pt (by omega), mj_u_pt (by omega), mj_u_pt (by omega), mj_u_eq]
end MJZ29
