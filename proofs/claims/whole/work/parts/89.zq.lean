section MJZ28
variable {E : mj_E} {d d' w w' c : Nat} {hl : Nat → Nat → Int64}
theorem s_to1 {v1 : Int32} {k : Nat} (hk : k ≤ 16) : ∀ (r j : Nat) (hm : mj_HI), j + r = 2 * k → ∃ hm' : mj_HI, mj_den mj_P E d 208 7 [.ref 205, .int v1, .int (nI k), .int (nI j)] [] (mj_hw w c hm hl) = mj_den mj_P E d 208 35 [.ref 205, .int v1, .int (nI k), .int (nI (2 * k))] [] (mj_hw w c hm' hl) ∧ (∀ i, j ≤ i → i < 2 * k → hm' 224 i = hm 224 (32 + i)) ∧ ∀ a z, ¬ (a = 224 ∧ j ≤ z ∧ z < 32) → hm' a z = hm a z := by
  intro r
  induction r with
  | zero =>
    intro j hm hj
    obtain rfl : j = 2 * k := by omega
    exact ⟨hm, by rw [q208_7, show (2 : Int32) * nI k = nI (2 * k) from mj_nImul 2 k, if_pos Int32.le_rfl], fun i _ _ => by omega, fun _ _ _ => rfl⟩
  | succ r ih =>
    intro j hm hj
    have n1 : ¬ nI (2 * k) ≤ nI j := by rw [mj_nIle (by omega) (by omega)]; omega
    have e8 : (32 : Int32) + nI j = nI (32 + j) := mj_nIadd 32 j
    have a8 : (0 ≤ nI (32 + j) ∧ (nI (32 + j)).toNatClampNeg < 64) := ⟨by rw [mj_nI0 (by omega)]; trivial, by rw [mj_nIc (by omega)]; omega⟩
    have a4 : (0 ≤ nI j ∧ (nI j).toNatClampNeg < 64) := ⟨by rw [mj_nI0 (by omega)]; trivial, by rw [mj_nIc (by omega)]; omega⟩
    obtain ⟨hm', r1, r2, r3⟩ := ih (j + 1) (mj_u hm 224 j (hm 224 (32 + j))) (by omega)
    refine ⟨hm', ?_, fun i z3 z4 => ?_, fun a z hz => by rw [r3 a z (by omega), mj_u_pt (by omega)]⟩
    · rw [q208_7, show (2 : Int32) * nI k = nI (2 * k) from mj_nImul 2 k, if_neg n1, e8, if_pos a8, if_pos a4, mj_nIc (show j < 2147483648 by omega), mj_nIc (show 32 + j < 2147483648 by omega), mj_nIs, r1]
    · by_cases hij : i = j
      · rw [hij, r3 _ _ (by omega), mj_u_eq]
      · rw [r2 i (by omega) z4, mj_u_pt (by omega)]
theorem s_to2 {v1 v2 : Int32} : ∀ (r j : Nat) (hm : mj_HI), j + r = 10 → ∃ hm' : mj_HI, mj_den mj_P E d 208 48 [.ref 205, .int v1, .int v2, .int (nI j)] [] (mj_hw w c hm hl) = mj_den mj_P E d 208 75 [.ref 205, .int v1, .int v2, .int (nI 10)] [] (mj_hw w c hm' hl) ∧ (∀ i, j ≤ i → i < 10 → hm' 225 i = hm 225 (10 + i)) ∧ ∀ a z, ¬ (a = 225 ∧ j ≤ z ∧ z < 10) → hm' a z = hm a z := by
  intro r
  induction r with
  | zero =>
    intro j hm hj
    obtain rfl : j = 10 := by omega
    exact ⟨hm, by rw [q208_48, if_pos (by decide)], fun i _ _ => by omega, fun _ _ _ => rfl⟩
  | succ r ih =>
    intro j hm hj
    have n1 : ¬ (10 : Int32) ≤ nI j := by rw [show (10 : Int32) = nI 10 from rfl, mj_nIle (by omega) (by omega)]; omega
    have e8 : (10 : Int32) + nI j = nI (10 + j) := mj_nIadd 10 j
    have a8 : (0 ≤ nI (10 + j) ∧ (nI (10 + j)).toNatClampNeg < 20) := ⟨by rw [mj_nI0 (by omega)]; trivial, by rw [mj_nIc (by omega)]; omega⟩
    have a4 : (0 ≤ nI j ∧ (nI j).toNatClampNeg < 20) := ⟨by rw [mj_nI0 (by omega)]; trivial, by rw [mj_nIc (by omega)]; omega⟩
    obtain ⟨hm', r1, r2, r3⟩ := ih (j + 1) (mj_u hm 225 j (hm 225 (10 + j))) (by omega)
    refine ⟨hm', ?_, fun i z3 z4 => ?_, fun a z hz => by rw [r3 a z (by omega), mj_u_pt (by omega)]⟩
    · rw [q208_48, if_neg n1, e8, if_pos a8, if_pos a4, mj_nIc (show j < 2147483648 by omega), mj_nIc (show 10 + j < 2147483648 by omega), mj_nIs, r1]
    · by_cases hij : i = j
      · rw [hij, r3 _ _ (by omega), mj_u_eq]
      · rw [r2 i (by omega) z4, mj_u_pt (by omega)]
theorem s_to3 {v1 : Int32} {k : Nat} (hk : k ≤ 16) : ∀ (r j : Nat) (hm : mj_HI), j + r = 3 * k → ∃ hm' : mj_HI, mj_den mj_P E d 208 85 [.ref 205, .int v1, .int (nI k), .int (nI j)] [] (mj_hw w c hm hl) = mj_den mj_P E d 208 113 [.ref 205, .int v1, .int (nI k), .int (nI (3 * k))] [] (mj_hw w c hm' hl) ∧ (∀ i, j ≤ i → i < 3 * k → hm' 226 i = hm 226 (48 + i)) ∧ ∀ a z, ¬ (a = 226 ∧ j ≤ z ∧ z < 48) → hm' a z = hm a z := by
  intro r
  induction r with
  | zero =>
    intro j hm hj
    obtain rfl : j = 3 * k := by omega
    exact ⟨hm, by rw [q208_85, show (3 : Int32) * nI k = nI (3 * k) from mj_nImul 3 k, if_pos Int32.le_rfl], fun i _ _ => by omega, fun _ _ _ => rfl⟩
  | succ r ih =>
    intro j hm hj
    have n1 : ¬ nI (3 * k) ≤ nI j := by rw [mj_nIle (by omega) (by omega)]; omega
    have e8 : (48 : Int32) + nI j = nI (48 + j) := mj_nIadd 48 j
    have a8 : (0 ≤ nI (48 + j) ∧ (nI (48 + j)).toNatClampNeg < 96) := ⟨by rw [mj_nI0 (by omega)]; trivial, by rw [mj_nIc (by omega)]; omega⟩
    have a4 : (0 ≤ nI j ∧ (nI j).toNatClampNeg < 96) := ⟨by rw [mj_nI0 (by omega)]; trivial, by rw [mj_nIc (by omega)]; omega⟩
    obtain ⟨hm', r1, r2, r3⟩ := ih (j + 1) (mj_u hm 226 j (hm 226 (48 + j))) (by omega)
    refine ⟨hm', ?_, fun i z3 z4 => ?_, fun a z hz => by rw [r3 a z (by omega), mj_u_pt (by omega)]⟩
    · rw [q208_85, show (3 : Int32) * nI k = nI (3 * k) from mj_nImul 3 k, if_neg n1, e8, if_pos a8, if_pos a4, mj_nIc (show j < 2147483648 by omega), mj_nIc (show 48 + j < 2147483648 by omega), mj_nIs, r1]
    · by_cases hij : i = j
      · rw [hij, r3 _ _ (by omega), mj_u_eq]
      · rw [r2 i (by omega) z4, mj_u_pt (by omega)]
theorem s_t1 {k : Nat} (hk : k ≤ 16) (hm : mj_HI) : ∃ hm' : mj_HI, mj_dc mj_P E (d + 1) 208 [.ref 205, .int 1, .int (nI k)] (mj_hw w c hm hl) = some (none, mj_hw w c hm' hl) ∧ (∀ i, i < 2 * k → hm' 224 i = hm 224 (32 + i)) ∧ hm' 205 36 = nI k ∧ ∀ a z, a ≠ 224 → ¬ (a = 205 ∧ z = 36) → hm' a z = hm a z := by
  obtain ⟨hm1, r1, r2, r3⟩ := s_to1 (E := E) (d := d) (w := w) (c := c) (hl := hl) (v1 := 1) hk (2 * k) 0 hm (by omega)
  have r1' : mj_den mj_P E d 208 7 [.ref 205, .int 1, .int (nI k), .int 0] [] (mj_hw w c hm hl) = _ := r1
  refine ⟨mj_u hm1 205 36 (nI k), by rw [e208, q208_0, if_neg (fun z => z rfl), r1', q208_35], fun i hi => by rw [mj_u_pt (by omega)]; exact r2 i (by omega) hi, mj_u_eq, fun a z z1 z2 => by rw [mj_u_pt (by omega), r3 _ _ (by omega)]⟩
theorem s_t2 {k : Nat} (hm : mj_HI) : ∃ hm' : mj_HI, mj_dc mj_P E (d + 1) 208 [.ref 205, .int 2, .int (nI k)] (mj_hw w c hm hl) = some (none, mj_hw w c hm' hl) ∧ (∀ i, i < 10 → hm' 225 i = hm 225 (10 + i)) ∧ hm' 205 38 = nI k ∧ hm' 205 3 = 0 ∧ ∀ a z, a ≠ 225 → ¬ (a = 205 ∧ (z = 38 ∨ z = 3)) → hm' a z = hm a z := by
  obtain ⟨hm1, r1, r2, r3⟩ := s_to2 (E := E) (d := d) (w := w) (c := c) (hl := hl) (v1 := 2) (v2 := nI k) 10 0 hm (by omega)
  have r1' : mj_den mj_P E d 208 48 [.ref 205, .int 2, .int (nI k), .int 0] [] (mj_hw w c hm hl) = _ := r1
  refine ⟨mj_u (mj_u hm1 205 38 (nI k)) 205 3 0, by rw [e208, q208_0, if_pos (by decide), q208_41, if_neg (fun z => z rfl), r1', q208_75, q208_118], fun i hi => by rw [mj_u_pt (by omega), mj_u_pt (by omega)]; exact r2 i (by omega) hi, by rw [mj_u_pt (by omega), mj_u_eq], mj_u_eq, fun a z z1 z2 => by rw [mj_u_pt (by omega), mj_u_pt (by omega), r3 _ _ (by omega)]⟩
theorem s_t3 {k : Nat} (hk : k ≤ 16) (hm : mj_HI) : ∃ hm' : mj_HI, mj_dc mj_P E (d + 1) 208 [.ref 205, .int 3, .int (nI k)] (mj_hw w c hm hl) = some (none, mj_hw w c hm' hl) ∧ (∀ i, i < 3 * k → hm' 226 i = hm 226 (48 + i)) ∧ hm' 205 40 = nI k ∧ hm' 205 3 = 0 ∧ ∀ a z, a ≠ 226 → ¬ (a = 205 ∧ (z = 40 ∨ z = 3)) → hm' a z = hm a z := by
  obtain ⟨hm1, r1, r2, r3⟩ := s_to3 (E := E) (d := d) (w := w) (c := c) (hl := hl) (v1 := 3) hk (3 * k) 0 hm (by omega)
  have r1' : mj_den mj_P E d 208 85 [.ref 205, .int 3, .int (nI k), .int 0] [] (mj_hw w c hm hl) = _ := r1
  refine ⟨mj_u (mj_u hm1 205 40 (nI k)) 205 3 0, by rw [e208, q208_0, if_pos (by decide), q208_41, if_pos (by decide), q208_83, r1', q208_113, q208_118], fun i hi => by rw [mj_u_pt (by omega), mj_u_pt (by omega)]; exact r2 i (by omega) hi, by rw [mj_u_pt (by omega), mj_u_eq], mj_u_eq, fun a z z1 z2 => by rw [mj_u_pt (by omega), mj_u_pt (by omega), r3 _ _ (by omega)]⟩
end MJZ28
/-- the invariant, with new words -/
theorem iv_J_new {n l : Nat} {h m h' m' : mj_HI} (q : iv_J n l h m) (hc : ∀ a k, a ≤ 158 ∨ a = 203 → ¬ (13 ≤ a ∧ a ≤ 33) → ¬ (a = 91 ∧ k = 0) → h' a k = h a k) (hm : ∀ a k, 205 ≤ a → a ≤ 241 → a ≠ 208 → a ≠ 214 → ¬ (216 ≤ a ∧ a ≤ 226) → ¬ (a = 205 ∧ (k = 0 ∨ k = 3 ∨ (14 ≤ k ∧ k ≤ 18) ∨ (27 ≤ k ∧ k ≤ 36) ∨ k = 38 ∨ k = 40)) → m' a k = m a k) (hL : iv_ILaw (iv_wC 1 h') m') (hS : iv_ISay (iv_wC 1 h') m') (hP : iv_IPin n (iv_wC 1 h') m') (hA : iv_ISale n l (iv_wC 1 h') m') (hu : (h' 91 0 = h 91 0 ∧ m' 205 3 = m 205 3) ∨ (h' 91 0 = 0 ∧ m' 205 3 = 0)) (hR : iv_IRead h' m') : iv_J n l h' m' := by
  obtain ⟨n10, l12, mN, mL⟩ := iv_Jn q
  obtain ⟨q1, q2, q3, q4, q5⟩ := id q
  obtain ⟨h1, h2, h3, h4, h5, h6, h7, h8, h9, h10, h11, h12, h13, h14, h15, h16⟩ := q1
  have cR : ∀ j k, j < 12 → iv_wC 1 h' j k = iv_wC 1 h j k := fun j k hj => hc _ _ (by omega) (by omega) (by omega)
  have c33 : ∀ j k, 33 ≤ j → j ≤ 44 → iv_wC 1 h' j k = iv_wC 1 h j k := fun j k z1 z2 => hc _ _ (by omega) (by omega) (by omega)
  have e : ∀ a k, 206 ≤ a → a ≤ 241 → a ≠ 208 → a ≠ 214 → ¬ (216 ≤ a ∧ a ≤ 226) → m' a k = m a k := fun a k z1 z2 z3 z4 z5 => hm a k (by omega) z2 z3 z4 z5 (by omega)
  have e5 : ∀ k, ¬ (k = 0 ∨ k = 3 ∨ (14 ≤ k ∧ k ≤ 18) ∨ (27 ≤ k ∧ k ≤ 36) ∨ k = 38 ∨ k = 40) → m' 205 k = m 205 k := fun k z => hm _ _ (by omega) (by omega) (by omega) (by omega) (by omega) (by omega)
  refine ⟨⟨h1, h2, by rw [e5 _ (by omega)]; exact h3, by rw [e5 _ (by omega)]; exact h4, ?_, ?_, hL, hS, hP, hA, ?_, ?_, ?_, ?_, ?_, ?_⟩, ?_, ?_, hR, ?_⟩
  · exact iv_IR_congr h1 h2 (fun j k hj hk => cR (1 + j) k (by omega)) (fun k hk => e _ _ (by omega) (by omega) (by omega) (by omega) (by omega)) (fun a k z1 z2 _ => e _ _ (by omega) (by omega) (by omega) (by omega) (by omega)) h5
  · intro k hk; rw [e _ _ (by omega) (by omega) (by omega) (by omega) (by omega)]; exact h6 k hk
  · exact iv_ISeen_congr (fun j k z1 z2 _ => c33 j k z1 (by omega)) (e5 _ (by omega)) (fun k _ => e _ _ (by omega) (by omega) (by omega) (by omega) (by omega)) h11
  · exact iv_IClaim_congr (fun j k z1 z2 _ => c33 j k z1 (by omega)) (e5 _ (by omega)) (fun k _ => e _ _ (by omega) (by omega) (by omega) (by omega) (by omega)) h12
  · exact iv_IPut_congr (fun j k z1 z2 _ => c33 j k z1 (by omega)) (fun k _ => e _ _ (by omega) (by omega) (by omega) (by omega) (by omega)) h13
  · exact iv_IBring_congr (fun j k z1 z2 _ => c33 j k z1 (by omega)) (e5 _ (by omega)) (fun k _ => e _ _ (by omega) (by omega) (by omega) (by omega) (by omega)) (fun k _ => e _ _ (by omega) (by omega) (by omega) (by omega) (by omega)) h14
  · exact iv_IBrea_congr (fun j k z1 z2 _ => c33 j k z1 (by omega)) (e5 _ (by omega)) (fun k _ => e _ _ (by omega) (by omega) (by omega) (by omega) (by omega)) h15
  · exact iv_IBook_congr (fun j k z1 z2 _ => c33 j k (by omega) (by omega)) (fun k _ => e _ _ (by omega) (by omega) (by omega) (by omega) (by omega)) h16
  · obtain ⟨u, x, z1, z2, z3, z4, z5, z6⟩ := q2
    rcases hu with ⟨u1, u2⟩ | ⟨u1, u2⟩
    · exact ⟨u, x, z1, z2, by rw [u1]; exact z3, by rw [u2]; exact z4, by rw [hc _ _ (by omega) (by omega) (by omega)]; exact z5, fun j hj => iv_IR_congr n10 l12 (fun i k hi _ => hc _ _ (by omega) (by omega) (by omega)) (fun _ _ => e _ _ (by omega) (by omega) (by omega) (by omega) (by omega)) (fun a k y1 y2 _ => e _ _ (by omega) (by omega) (by omega) (by omega) (by omega)) (z6 j hj)⟩
    · exact ⟨0, x, by omega, z2, u1, u2, by rw [hc _ _ (by omega) (by omega) (by omega)]; exact z5, fun j hj => by omega⟩
  · exact iv_G2_congr q3 (hc _ _ (by omega) (by omega) (by omega)) (fun a k _ _ => hc _ _ (by omega) (by omega) (by omega)) (e5 _ (by omega)) (fun k => e _ _ (by omega) (by omega) (by omega) (by omega) (by omega))
  · exact iv_IConst_congr q5 (fun k => hc _ _ (by omega) (by omega) (by omega)) (e5 _ (by omega)) (fun k => e _ _ (by omega) (by omega) (by omega) (by omega) (by omega))
