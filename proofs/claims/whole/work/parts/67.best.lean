/-! searches from the full set down; the first of the best -/
theorem wz_ex (F : (Nat → Nat) → Nat → Nat) (N : Nat) (hF : ∀ g h s, (∀ t, s < t → g t = h t) → F g s = F h s) : ∃ G : Nat → Nat, ∀ s, s ≤ N → G s = F G s := by
  have : ∀ k, ∃ G : Nat → Nat, ∀ s, s ≤ N → N < s + k → G s = F G s := by
    intro k
    induction k with
    | zero => exact ⟨fun _ => 0, fun s h1 h2 => absurd h2 (by omega)⟩
    | succ k ih =>
      obtain ⟨G, hG⟩ := ih
      refine ⟨fun t => if t = N - k then F G (N - k) else G t, fun s h1 h2 => ?_⟩
      have hlow : ∀ s, N - k ≤ s → F (fun t => if t = N - k then F G (N - k) else G t) s = F G s := fun s hs => hF _ _ s (fun t ht => if_neg (by omega))
      by_cases hs : s = N - k
      · rw [hlow s (by omega)]
        show (if s = N - k then F G (N - k) else G s) = _
        rw [if_pos hs, hs]
      · by_cases hk : N < s + k
        · rw [hlow s (by omega)]
          show (if s = N - k then F G (N - k) else G s) = _
          rw [if_neg hs]; exact hG s h1 hk
        · exfalso; omega
  obtain ⟨G, hG⟩ := this (N + 1)
  exact ⟨G, fun s hs => hG s hs (by omega)⟩
/-- the first of the least of a row, of those not in s -/
def wz_ix (g : Nat → Nat) (s : Nat) : Nat → Option Nat
  | 0 => none
  | k + 1 => if s.testBit k = true then wz_ix g s k else match wz_ix g s k with
    | none => some k
    | some j => if g k < g j then some k else some j
theorem wz_ix_t {g : Nat → Nat} {s k : Nat} (h : s.testBit k = true) : wz_ix g s (k + 1) = wz_ix g s k := by
  show (if s.testBit k = true then _ else _) = _; rw [if_pos h]
theorem wz_ix_n {g : Nat → Nat} {s k : Nat} (h : ¬ s.testBit k = true) (h2 : wz_ix g s k = none) : wz_ix g s (k + 1) = some k := by
  show (if s.testBit k = true then wz_ix g s k else match wz_ix g s k with | none => some k | some j => if g k < g j then some k else some j) = _
  rw [if_neg h, h2]
theorem wz_ix_s {g : Nat → Nat} {s k j : Nat} (h : ¬ s.testBit k = true) (h2 : wz_ix g s k = some j) : wz_ix g s (k + 1) = if g k < g j then some k else some j := by
  show (if s.testBit k = true then wz_ix g s k else match wz_ix g s k with | none => some k | some j => if g k < g j then some k else some j) = _
  rw [if_neg h, h2]
theorem wz_ix_ok (g : Nat → Nat) (s : Nat) : ∀ n, (wz_ix g s n = none → ∀ j, j < n → s.testBit j = true) ∧ (∀ i, wz_ix g s n = some i → i < n ∧ s.testBit i = false ∧ (∀ j, j < i → s.testBit j = false → g i < g j) ∧ ∀ j, j < n → s.testBit j = false → g i ≤ g j) := by
  intro n
  induction n with
  | zero => exact ⟨fun _ j hj => absurd hj (by omega), fun i h => by cases h⟩
  | succ n ih =>
    obtain ⟨i1, i2⟩ := ih
    by_cases hb : s.testBit n = true
    · rw [wz_ix_t hb]
      refine ⟨fun h j hj => ?_, fun i h => ?_⟩
      · by_cases hjn : j = n
        · subst hjn; exact hb
        · exact i1 h j (by omega)
      · obtain ⟨h1, h2, h3, h4⟩ := i2 i h
        refine ⟨by omega, h2, h3, fun j hj hjs => ?_⟩
        by_cases hjn : j = n
        · subst hjn; rw [hb] at hjs; cases hjs
        · exact h4 j (by omega) hjs
    · have hb2 : s.testBit n = false := by simpa using hb
      cases hw : wz_ix g s n with
      | none =>
        rw [wz_ix_n hb hw]
        refine ⟨fun h => (by cases h), fun i h => ?_⟩
        cases h
        refine ⟨by omega, hb2, fun j hj hjs => ?_, fun j hj hjs => ?_⟩
        · rw [i1 hw j hj] at hjs; cases hjs
        · by_cases hjn : j = n
          · subst hjn; exact Nat.le_refl _
          · rw [i1 hw j (by omega)] at hjs; cases hjs
      | some k =>
        obtain ⟨h1, h2, h3, h4⟩ := i2 k hw
        rw [wz_ix_s hb hw]
        by_cases hlt : g n < g k
        · rw [if_pos hlt]
          refine ⟨fun h => (by cases h), fun i h => ?_⟩
          cases h
          refine ⟨by omega, hb2, fun j hj hjs => ?_, fun j hj hjs => ?_⟩
          · have := h4 j hj hjs; omega
          · by_cases hjn : j = n
            · subst hjn; exact Nat.le_refl _
            · have := h4 j (by omega) hjs; omega
        · rw [if_neg hlt]
          refine ⟨fun h => (by cases h), fun i h => ?_⟩
          cases h
          refine ⟨by omega, h2, h3, fun j hj hjs => ?_⟩
          by_cases hjn : j = n
          · subst hjn; omega
          · exact h4 j (by omega) hjs
theorem wz_ix_congr {g h : Nat → Nat} {s : Nat} : ∀ n, (∀ k, k < n → g k = h k) → wz_ix g s n = wz_ix h s n := by
  intro n
  induction n with
  | zero => intro _; rfl
  | succ n ih =>
    intro hh
    have i1 := ih (fun k hk => hh k (by omega))
    by_cases hb : s.testBit n = true
    · rw [wz_ix_t hb, wz_ix_t hb, i1]
    · cases hw : wz_ix g s n with
      | none => rw [wz_ix_n hb hw, wz_ix_n hb (by rw [← i1]; exact hw)]
      | some k =>
        have hk := ((wz_ix_ok g s n).2 k hw).1
        rw [wz_ix_s hb hw, wz_ix_s hb (by rw [← i1]; exact hw), hh n (by omega), hh k (by omega)]
/-- as an int: -1 for none -/
def wz_io (o : Option Nat) : Int32 := match o with | none => -1 | some k => nI k
/-- the value at the best, z without one -/
def wz_v (g : Nat → Nat) (z : Nat) (o : Option Nat) : Nat := match o with | none => z | some k => g k
theorem wz_or_gt {s i : Nat} (h : s.testBit i = false) : s < s ||| 2 ^ i := by
  have h1 : s ≤ s ||| 2 ^ i := Nat.left_le_or
  have h2 : s ≠ s ||| 2 ^ i := fun z => by
    have : (s ||| 2 ^ i).testBit i = true := by rw [Nat.testBit_or, Nat.testBit_two_pow, decide_eq_true rfl, Bool.or_true]
    rw [← z, h] at this; cases this
  omega
theorem wz_or_bit (s i j : Nat) : (s ||| 2 ^ i).testBit j = (s.testBit j || decide (i = j)) := by rw [Nat.testBit_or, Nat.testBit_two_pow]
