/-! the words and the invariant -/
theorem tx_ILaw {k L : Nat} {g hm C M : mj_HI} (hk : k ≤ 16) (hL : L ≤ 400) (hp : iv_ph (g 165) L ≤ 400) (c0 : C 12 0 = nI k) (m0 : M 216 0 = nI k) (cr : ∀ j i, j < 4 → i < 16 → C (13 + j) i = g (161 + j) i) (cc : ∀ i, i < 400 → C 17 i = g 165 i ∧ C 18 i = g 166 i) (mr : ∀ a i, 217 ≤ a → a ≤ 220 → i < k → M a i = hm a (32 + i)) (mc : ∀ p, p < iv_ph (g 165) L → M 221 p = hm 221 (800 + p) ∧ M 222 p = hm 222 (800 + p)) (hc : cdr g hm L) (hr : LR k L g hm) : iv_ILaw C M := by
  have ph : ∀ x, x ≤ L → iv_ph (C 17) x = iv_ph (g 165) x := fun x hx => iv_ph_congr x (fun i hi => (cc i (by omega)).1)
  refine ⟨k, L, hk, hL, by rw [ph L (Nat.le_refl _)]; exact hp, c0, m0, fun i hi => ?_, fun i hi => ?_⟩
  · rw [ph i (by omega), (cc i (by omega)).1, (cc i (by omega)).2]
    have l1 := iv_ph_lt (f := g 165) hi
    refine iv_cor_congr (mc _ l1).1 (mc _ l1).2 (fun e => (mc _ (iv_ph_14 (f := g 165) hi e)).1) (hc.2 i hi)
  · obtain ⟨w1, cb, cw, cc', p1, p2, p3, p4, p5, p6, p7, p8, p9, p10, p11⟩ := hr.2 i hi
    have tc : ∀ x y, y ≤ L → iv_tys (C 17) x (y - x) [] = iv_tys (g 165) x (y - x) [] := fun x y hy => by
      by_cases hxy : x ≤ y
      · exact iv_tys_congr x _ [] (fun k hk => (cc k (by omega)).1)
      · rw [show y - x = 0 by omega]; rfl
    refine ⟨by rw [mr _ _ (by omega) (by omega) hi, ← w1]; exact cr 0 i (by omega) (by omega), cb, cw, cc', p1, p2, p3, (cr 1 i (by omega) (by omega)).trans p4, (cr 2 i (by omega) (by omega)).trans p5, (cr 3 i (by omega) (by omega)).trans p6, ?_, ?_, ?_, ?_, ?_⟩
    · rw [mr _ _ (by omega) (by omega) hi, ph _ (by omega)]; exact p7
    · rw [mr _ _ (by omega) (by omega) hi, ph _ (by omega)]; exact p8
    · rw [mr _ _ (by omega) (by omega) hi, ph _ (by omega)]; exact p9
    · rw [tc _ _ (by omega)]; exact p10
    · rcases p11 with z | z
      · exact Or.inl z
      · exact Or.inr (by rw [tc _ _ (by omega)]; exact z)
def gK (m m' : mj_HI) : Prop := ∀ a k, ¬ (a = 205 ∧ (k = 0 ∨ (14 ≤ k ∧ k ≤ 18) ∨ (27 ≤ k ∧ k ≤ 35))) → a ≠ 223 → ¬ (217 ≤ a ∧ a ≤ 220 ∧ 32 ≤ k) → ¬ ((a = 221 ∨ a = 222) ∧ 800 ≤ k) → ¬ (a = 224 ∧ 32 ≤ k) → ¬ (a = 225 ∧ 10 ≤ k) → ¬ (a = 226 ∧ 48 ≤ k) → m' a k = m a k
theorem gK_t {a b c : mj_HI} (p : gK a b) (q : gK b c) : gK a c := fun x k h1 h2 h3 h4 h5 h6 h7 => (q x k h1 h2 h3 h4 h5 h6 h7).trans (p x k h1 h2 h3 h4 h5 h6 h7)
theorem gT_K {a b : mj_HI} (p : gT a b) : gK a b := fun x k h1 h2 h3 h4 h5 h6 h7 => p x k (by omega) h4 h3 h2 h5 h6 h7
/-- nothing new -/
theorem iv_J_sameT {n l : Nat} {h m h' m' : mj_HI} (q : iv_J n l h m) (hc : ∀ a k, a ≤ 158 ∨ a = 203 → h' a k = h a k) (hm : ∀ a k, 205 ≤ a → ¬ (a = 205 ∧ (k = 0 ∨ (14 ≤ k ∧ k ≤ 18) ∨ (27 ≤ k ∧ k ≤ 35))) → a ≠ 223 → ¬ (217 ≤ a ∧ a ≤ 220 ∧ 32 ≤ k) → ¬ ((a = 221 ∨ a = 222) ∧ 800 ≤ k) → ¬ (a = 224 ∧ 32 ≤ k) → ¬ (a = 225 ∧ 10 ≤ k) → ¬ (a = 226 ∧ 48 ≤ k) → m' a k = m a k) (hR : iv_IRead h' m') : iv_J n l h' m' := by
  obtain ⟨p1, p2, p3, p4⟩ := iv_Jp q
  refine iv_J_new q (fun a k z _ _ => hc a k z) (fun a k z1 z2 z3 z4 z5 z6 => hm a k (by omega) (by omega) (by omega) (by omega) (by omega) (by omega) (by omega) (by omega)) ?_ ?_ ?_ ?_ (Or.inl ⟨hc _ _ (by omega), hm _ _ (by omega) (by omega) (by omega) (by omega) (by omega) (by omega) (by omega) (by omega)⟩) hR
  · exact iv_ILaw_congr (fun j k z1 z2 _ => hc _ _ (by omega)) (fun a k z1 z2 z3 => hm a k (by omega) (by omega) (by omega) (fun z => by
      rcases (by omega : a = 217 ∨ a = 218 ∨ a = 219 ∨ a = 220) with rfl | rfl | rfl | rfl <;> (have z3' : k < 16 := z3; omega)) (fun z => by
      rcases (by omega : a = 221 ∨ a = 222) with rfl | rfl <;> (have z3' : k < 400 := z3; omega)) (by omega) (by omega) (by omega)) p1
  · exact iv_ISay_congr (fun j k z1 z2 _ => hc _ _ (by omega)) (hm _ _ (by omega) (by omega) (by omega) (by omega) (by omega) (by omega) (by omega) (by omega)) (fun k hk => hm _ _ (by omega) (by omega) (by omega) (by omega) (by omega) (by omega) (by omega) (by omega)) p2
  · exact iv_IPin_congr (Nat.le_refl _) (fun j k z1 z2 _ => hc _ _ (by omega)) (hm _ _ (by omega) (by omega) (by omega) (by omega) (by omega) (by omega) (by omega) (by omega)) (fun k hk => hm _ _ (by omega) (by omega) (by omega) (by omega) (by omega) (by omega) (by omega) (by omega)) p3
  · exact iv_ISale_congr (Nat.le_refl _) (Nat.le_refl _) (fun j k z1 z2 _ => hc _ _ (by omega)) (hm _ _ (by omega) (by omega) (by omega) (by omega) (by omega) (by omega) (by omega) (by omega)) (fun k hk => hm _ _ (by omega) (by omega) (by omega) (by omega) (by omega) (by omega) (by omega) (by omega)) p4
