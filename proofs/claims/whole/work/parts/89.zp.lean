/-! what was read takes its place -/
section MJZ27
variable {E : mj_E} {d d' w w' c : Nat} {hl : Nat → Nat → Int64}
theorem s_rw {a b n : Nat} (h : mj_HI) (ha : mj_nth (mj_CL c) a = (100, n)) (hb : mj_nth (mj_CL c) b = (100, n)) (hn : n < 65536) : ∃ g : mj_HI, mj_dc mj_P E (d + 2) 149 [.ref a, .ref b] (mj_hw w c h hl) = some (none, mj_hw w c g hl) ∧ (∀ k, k < n → g b k = h a k) ∧ ∀ e k, e ≠ b → g e k = h e k := by
  refine ⟨_, s_crow ha hb hn, fun k hk => ?_, fun e k he => ?_⟩
  · rw [mj_ur_eq]; exact if_pos hk
  · rw [mj_ur_row he]
theorem s_cpL (h : mj_HI) : ∃ g : mj_HI, mj_dc mj_P E (d + 3) 22 [.ref 13, .ref 160] (mj_hw w c h hl) = some (none, mj_hw w c g hl) ∧ g 13 0 = h 160 0 ∧ (∀ j k, j < 4 → k < 16 → g (14 + j) k = h (161 + j) k) ∧ (∀ k, k < 400 → g 18 k = h 165 k ∧ g 19 k = h 166 k) ∧ ∀ a k, ¬ (13 ≤ a ∧ a ≤ 19) → g a k = h a k := by
  obtain ⟨g0, hg0⟩ : ∃ g0, g0 = mj_u (mj_u h 13 0 (h 160 0)) 13 1 (h 160 1) := ⟨_, rfl⟩
  have f0 : ∀ a k, a ≠ 13 → g0 a k = h a k := fun a k z => by rw [hg0, mj_u_pt (by omega), mj_u_pt (by omega)]
  obtain ⟨g1, e1, r1, f1⟩ := s_rw (E := E) (d := d) (w := w) (c := c) (hl := hl) (a := 161) (b := 14) (n := 16) g0 rfl rfl (by omega)
  obtain ⟨g2, e2, r2, f2⟩ := s_rw (E := E) (d := d) (w := w) (c := c) (hl := hl) (a := 162) (b := 15) (n := 16) g1 rfl rfl (by omega)
  obtain ⟨g3, e3, r3, f3⟩ := s_rw (E := E) (d := d) (w := w) (c := c) (hl := hl) (a := 163) (b := 16) (n := 16) g2 rfl rfl (by omega)
  obtain ⟨g4, e4, r4, f4⟩ := s_rw (E := E) (d := d) (w := w) (c := c) (hl := hl) (a := 164) (b := 17) (n := 16) g3 rfl rfl (by omega)
  obtain ⟨g5, e5, r5, f5⟩ := s_rw (E := E) (d := d) (w := w) (c := c) (hl := hl) (a := 165) (b := 18) (n := 400) g4 rfl rfl (by omega)
  obtain ⟨g6, e6, r6, f6⟩ := s_rw (E := E) (d := d) (w := w) (c := c) (hl := hl) (a := 166) (b := 19) (n := 400) g5 rfl rfl (by omega)
  refine ⟨g6, ?_, ?_, fun j k hj hk => ?_, fun k hk => ⟨?_, ?_⟩, fun a k ha => ?_⟩
  · rw [e22, q22_0_2, ← hg0, e1, mj_bv_some, q22_27_2, e2, mj_bv_some, q22_38_2, e3, mj_bv_some, q22_49_2, e4, mj_bv_some, q22_60_2, e5, mj_bv_some, q22_71_2, e6, mj_bv_some, q22_82_2]
  · rw [f6 _ _ (by omega), f5 _ _ (by omega), f4 _ _ (by omega), f3 _ _ (by omega), f2 _ _ (by omega), f1 _ _ (by omega), hg0, mj_u_pt (by omega), mj_u_eq]
  · rcases (by omega : j = 0 ∨ j = 1 ∨ j = 2 ∨ j = 3) with rfl | rfl | rfl | rfl
    · rw [f6 _ _ (by omega), f5 _ _ (by omega), f4 _ _ (by omega), f3 _ _ (by omega), f2 _ _ (by omega), r1 k hk, f0 _ _ (by omega)]
    · rw [f6 _ _ (by omega), f5 _ _ (by omega), f4 _ _ (by omega), f3 _ _ (by omega), r2 k hk, f1 _ _ (by omega), f0 _ _ (by omega)]
    · rw [f6 _ _ (by omega), f5 _ _ (by omega), f4 _ _ (by omega), r3 k hk, f2 _ _ (by omega), f1 _ _ (by omega), f0 _ _ (by omega)]
    · rw [f6 _ _ (by omega), f5 _ _ (by omega), r4 k hk, f3 _ _ (by omega), f2 _ _ (by omega), f1 _ _ (by omega), f0 _ _ (by omega)]
  · rw [f6 _ _ (by omega), r5 k hk, f4 _ _ (by omega), f3 _ _ (by omega), f2 _ _ (by omega), f1 _ _ (by omega), f0 _ _ (by omega)]
  · rw [r6 k hk, f5 _ _ (by omega), f4 _ _ (by omega), f3 _ _ (by omega), f2 _ _ (by omega), f1 _ _ (by omega), f0 _ _ (by omega)]
  · rw [f6 _ _ (by omega), f5 _ _ (by omega), f4 _ _ (by omega), f3 _ _ (by omega), f2 _ _ (by omega), f1 _ _ (by omega), f0 _ _ (by omega)]
theorem s_cpN (h : mj_HI) {b : Nat} (hb : b = 22 ∨ b = 26 ∨ b = 30) : ∃ g : mj_HI, mj_dc mj_P E (d + 3) 25 [.ref b, .ref 169] (mj_hw w c h hl) = some (none, mj_hw w c g hl) ∧ g b 0 = h 169 0 ∧ (∀ j k, j < 3 → k < 16 → g (b + 1 + j) k = h (170 + j) k) ∧ ∀ a k, ¬ (b ≤ a ∧ a ≤ b + 3) → g a k = h a k := by
  obtain ⟨g0, hg0⟩ : ∃ g0, g0 = mj_u h b 0 (h 169 0) := ⟨_, rfl⟩
  have f0 : ∀ a k, a ≠ b → g0 a k = h a k := fun a k z => by rw [hg0, mj_u_pt (by omega)]
  have cl : ∀ j, j < 3 → mj_nth (mj_CL c) (b + 1 + j) = (100, 16) := fun j hj => by
    rcases hb with rfl | rfl | rfl <;> (rcases (by omega : j = 0 ∨ j = 1 ∨ j = 2) with rfl | rfl | rfl <;> rfl)
  obtain ⟨g1, e1, r1, f1⟩ := s_rw (E := E) (d := d) (w := w) (c := c) (hl := hl) (a := 170) (b := b + 1 + 0) (n := 16) g0 rfl (cl 0 (by omega)) (by omega)
  obtain ⟨g2, e2, r2, f2⟩ := s_rw (E := E) (d := d) (w := w) (c := c) (hl := hl) (a := 171) (b := b + 1 + 1) (n := 16) g1 rfl (cl 1 (by omega)) (by omega)
  obtain ⟨g3, e3, r3, f3⟩ := s_rw (E := E) (d := d) (w := w) (c := c) (hl := hl) (a := 172) (b := b + 1 + 2) (n := 16) g2 rfl (cl 2 (by omega)) (by omega)
  refine ⟨g3, ?_, ?_, fun j k hj hk => ?_, fun a k ha => ?_⟩
  · rcases hb with rfl | rfl | rfl
    · rw [e25, q25_0_8, ← hg0, e1, mj_bv_some, q25_19_8, e2, mj_bv_some, q25_30_8, e3, mj_bv_some, q25_41_8]
    · rw [e25_2, q25_0_7, ← hg0, e1, mj_bv_some, q25_19_7, e2, mj_bv_some, q25_30_7, e3, mj_bv_some, q25_41_7]
    · rw [e25_4, q25_0_6, ← hg0, e1, mj_bv_some, q25_19_6, e2, mj_bv_some, q25_30_6, e3, mj_bv_some, q25_41_6]
  · rw [f3 _ _ (by omega), f2 _ _ (by omega), f1 _ _ (by omega), hg0, mj_u_eq]
  · rcases (by omega : j = 0 ∨ j = 1 ∨ j = 2) with rfl | rfl | rfl
    · rw [f3 _ _ (by omega), f2 _ _ (by omega), r1 k hk, f0 _ _ (by omega)]
    · rw [f3 _ _ (by omega), r2 k hk, f1 _ _ (by omega), f0 _ _ (by omega)]
    · rw [r3 k hk, f2 _ _ (by omega), f1 _ _ (by omega), f0 _ _ (by omega)]
  · rw [f3 _ _ (by omega), f2 _ _ (by omega), f1 _ _ (by omega), f0 _ _ (by omega)]
/-- the reference's rows of a law -/
theorem s_tl1 {k : Nat} (hk : k ≤ 16) : ∀ (r j : Nat) (hm : mj_HI), j + r = k → hm 205 27 = 0 → ∃ hm' : mj_HI, mj_den mj_P E d 197 2 [.ref 205, .int (nI k), .int (nI j)] [] (mj_hw w c hm hl) = mj_den mj_P E d 197 105 [.ref 205, .int (nI k), .int (nI k)] [] (mj_hw w c hm' hl) ∧ (∀ a i, 217 ≤ a → a ≤ 220 → j ≤ i → i < k → hm' a i = hm a (32 + i)) ∧ ∀ a z, ¬ (217 ≤ a ∧ a ≤ 220 ∧ j ≤ z ∧ z < 16) → hm' a z = hm a z := by
  intro r
  induction r with
  | zero =>
    intro j hm hj h27
    obtain rfl : j = k := by omega
    exact ⟨hm, by rw [q197_2, if_pos Int32.le_rfl], fun a i _ _ _ _ => by omega, fun _ _ _ => rfl⟩
  | succ r ih =>
    intro j hm hj h27
    have n1 : ¬ nI k ≤ nI j := by rw [mj_nIle (by omega) (by omega)]; omega
    have e32 : (32 : Int32) + nI j = nI (32 + j) := mj_nIadd 32 j
    have e16 : (16 : Int32) * hm 205 27 + nI j = nI j := by rw [h27, show (16 : Int32) * 0 = nI 0 from rfl, mj_nIadd, Nat.zero_add]
    have a32 : (0 ≤ nI (32 + j) ∧ (nI (32 + j)).toNatClampNeg < 48) := ⟨by rw [mj_nI0 (by omega)]; trivial, by rw [mj_nIc (by omega)]; omega⟩
    have a16 : (0 ≤ nI j ∧ (nI j).toNatClampNeg < 48) := ⟨by rw [mj_nI0 (by omega)]; trivial, by rw [mj_nIc (by omega)]; omega⟩
    obtain ⟨hm1, hh1⟩ : ∃ hm1, hm1 = mj_u (mj_u (mj_u (mj_u hm 217 j (hm 217 (32 + j))) 218 j (hm 218 (32 + j))) 219 j (hm 219 (32 + j))) 220 j (hm 220 (32 + j)) := ⟨_, rfl⟩
    have f1 : ∀ a z, ¬ (217 ≤ a ∧ a ≤ 220 ∧ z = j) → hm1 a z = hm a z := fun a z hz => by rw [hh1, mj_u_pt (by omega), mj_u_pt (by omega), mj_u_pt (by omega), mj_u_pt (by omega)]
    have v1 : ∀ a, 217 ≤ a → a ≤ 220 → hm1 a j = hm a (32 + j) := fun a z1 z2 => by
      rcases (by omega : a = 217 ∨ a = 218 ∨ a = 219 ∨ a = 220) with rfl | rfl | rfl | rfl
      · rw [hh1, mj_u_pt (by omega), mj_u_pt (by omega), mj_u_pt (by omega), mj_u_eq]
      · rw [hh1, mj_u_pt (by omega), mj_u_pt (by omega), mj_u_eq]
      · rw [hh1, mj_u_pt (by omega), mj_u_eq]
      · rw [hh1, mj_u_eq]
    obtain ⟨hm', r1, r2, r3⟩ := ih (j + 1) hm1 (by omega) (by rw [f1 _ _ (by omega)]; exact h27)
    refine ⟨hm', ?_, fun a i z1 z2 z3 z4 => ?_, fun a z hz => by rw [r3 a z (by omega), f1 a z (by omega)]⟩
    · rw [q197_2, if_neg n1, e32, e16, if_pos a32, if_pos a16, if_pos a32, if_pos a16, if_pos a32, if_pos a16, if_pos a32, if_pos a16, mj_nIc (show j < 2147483648 by omega), mj_nIc (show 32 + j < 2147483648 by omega), mj_nIs, ← hh1, r1]
    · by_cases hij : i = j
      · rw [hij, r3 _ _ (by omega), v1 a z1 z2]
      · rw [r2 a i z1 z2 (by omega) z4, f1 _ _ (by omega)]
/-- and its codes -/
theorem s_tl2 {v1 : Int32} {p : Nat} (hp : p ≤ 400) : ∀ (r j : Nat) (hm : mj_HI), j + r = p → hm 205 27 = 0 → hm 205 28 = nI p → ∃ hm' : mj_HI, mj_den mj_P E d 197 107 [.ref 205, .int v1, .int (nI j)] [] (mj_hw w c hm hl) = mj_den mj_P E d 197 171 [.ref 205, .int v1, .int (nI p)] [] (mj_hw w c hm' hl) ∧ (∀ i, j ≤ i → i < p → hm' 221 i = hm 221 (800 + i) ∧ hm' 222 i = hm 222 (800 + i)) ∧ ∀ a z, ¬ (221 ≤ a ∧ a ≤ 222 ∧ j ≤ z ∧ z < 400) → hm' a z = hm a z := by
  intro r
  induction r with
  | zero =>
    intro j hm hj h27 h28
    obtain rfl : j = p := by omega
    exact ⟨hm, by rw [q197_107, h28, if_pos Int32.le_rfl], fun i _ _ => by omega, fun _ _ _ => rfl⟩
  | succ r ih =>
    intro j hm hj h27 h28
    have n1 : ¬ nI p ≤ nI j := by rw [mj_nIle (by omega) (by omega)]; omega
    have e8 : (800 : Int32) + nI j = nI (800 + j) := mj_nIadd 800 j
    have e4 : (400 : Int32) * hm 205 27 + nI j = nI j := by rw [h27, show (400 : Int32) * 0 = nI 0 from rfl, mj_nIadd, Nat.zero_add]
    have a8 : (0 ≤ nI (800 + j) ∧ (nI (800 + j)).toNatClampNeg < 1200) := ⟨by rw [mj_nI0 (by omega)]; trivial, by rw [mj_nIc (by omega)]; omega⟩
    have a4 : (0 ≤ nI j ∧ (nI j).toNatClampNeg < 1200) := ⟨by rw [mj_nI0 (by omega)]; trivial, by rw [mj_nIc (by omega)]; omega⟩
    obtain ⟨hm1, hh1⟩ : ∃ hm1, hm1 = mj_u (mj_u hm 221 j (hm 221 (800 + j))) 222 j (hm 222 (800 + j)) := ⟨_, rfl⟩
    have f1 : ∀ a z, ¬ (221 ≤ a ∧ a ≤ 222 ∧ z = j) → hm1 a z = hm a z := fun a z hz => by rw [hh1, mj_u_pt (by omega), mj_u_pt (by omega)]
    obtain ⟨hm', r1, r2, r3⟩ := ih (j + 1) hm1 (by omega) (by rw [f1 _ _ (by omega)]; exact h27) (by rw [f1 _ _ (by omega)]; exact h28)
    refine ⟨hm', ?_, fun i z3 z4 => ?_, fun a z hz => by rw [r3 a z (by omega), f1 a z (by omega)]⟩
    · rw [q197_107, h28, if_neg n1, e8, e4, if_pos a8, if_pos a4, if_pos a8, if_pos a4, mj_nIc (show j < 2147483648 by omega), mj_nIc (show 800 + j < 2147483648 by omega), mj_nIs, ← hh1, r1]
    · by_cases hij : i = j
      · rw [hij, r3 _ _ (by omega), r3 _ _ (by omega)]
        exact ⟨by rw [hh1, mj_u_pt (by omega), mj_u_eq], by rw [hh1, mj_u_eq]⟩
      · rw [(r2 i (by omega) z4).1, (r2 i (by omega) z4).2, f1 _ _ (by omega), f1 _ _ (by omega)]
        exact ⟨rfl, rfl⟩
theorem s_takeL {k p : Nat} {hm : mj_HI} (hk : k ≤ 16) (hp : p ≤ 400) (h27 : hm 205 27 = 0) (h28 : hm 205 28 = nI p) : ∃ hm' : mj_HI, mj_dc mj_P E (d + 1) 197 [.ref 205, .int (nI k)] (mj_hw w c hm hl) = some (none, mj_hw w c hm' hl) ∧ (∀ a i, 217 ≤ a → a ≤ 220 → i < k → hm' a i = hm a (32 + i)) ∧ (∀ i, i < p → hm' 221 i = hm 221 (800 + i) ∧ hm' 222 i = hm 222 (800 + i)) ∧ hm' 216 0 = nI k ∧ ∀ a z, ¬ (216 ≤ a ∧ a ≤ 222) → hm' a z = hm a z := by
  obtain ⟨hm1, r1, r2, r3⟩ := s_tl1 (E := E) (d := d) (w := w) (c := c) (hl := hl) hk k 0 hm (by omega) h27
  have h271 : hm1 205 27 = 0 := by rw [r3 _ _ (by omega)]; exact h27
  obtain ⟨hm2, s1, s2, s3⟩ := s_tl2 (E := E) (d := d) (w := w) (c := c) (hl := hl) (v1 := nI k) hp p 0 hm1 (by omega) h271 (by rw [r3 _ _ (by omega)]; exact h28)
  have h272 : hm2 205 27 = 0 := by rw [s3 _ _ (by omega)]; exact h271
  refine ⟨mj_u hm2 216 0 (nI k), ?_, fun a i z1 z2 z3 => ?_, fun i hi => ?_, mj_u_eq, fun a z hz => ?_⟩
  · have r1' : mj_den mj_P E d 197 2 [.ref 205, .int (nI k), .int 0] [] (mj_hw w c hm hl) = mj_den mj_P E d 197 105 [.ref 205, .int (nI k), .int (nI k)] [] (mj_hw w c hm1 hl) := r1
    have s1' : mj_den mj_P E d 197 107 [.ref 205, .int (nI k), .int 0] [] (mj_hw w c hm1 hl) = mj_den mj_P E d 197 171 [.ref 205, .int (nI k), .int (nI p)] [] (mj_hw w c hm2 hl) := s1
    rw [e197, q197_0, r1', q197_105, s1', q197_171, h272, if_pos (by decide)]; rfl
  · rw [mj_u_pt (by omega), s3 _ _ (by omega)]; exact r2 a i z1 z2 (by omega) z3
  · rw [mj_u_pt (by omega), mj_u_pt (by omega), (s2 i (by omega) hi).1, (s2 i (by omega) hi).2, r3 _ _ (by omega), r3 _ _ (by omega)]
    exact ⟨rfl, rfl⟩
  · rw [mj_u_pt (by omega), s3 _ _ (by omega), r3 _ _ (by omega)]
end MJZ27
