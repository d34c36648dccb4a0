/-! breaths: rings, told by digits -/
def bD (b : Nat) (cf : Nat → Nat) : Nat → Nat
  | 0 => 0
  | m + 1 => bD b cf m + cf m * b ^ m
theorem bD_congr {b : Nat} {f g : Nat → Nat} : ∀ m, (∀ j, j < m → f j = g j) → bD b f m = bD b g m := by
  intro m
  induction m with
  | zero => intro _; rfl
  | succ m ih =>
    intro h
    show bD b f m + f m * b ^ m = bD b g m + g m * b ^ m
    rw [ih (fun j hj => h j (by omega)), h m (by omega)]
theorem bD_zero {b : Nat} {f : Nat → Nat} : ∀ m, (∀ j, j < m → f j = 0) → bD b f m = 0 := by
  intro m
  induction m with
  | zero => intro _; rfl
  | succ m ih =>
    intro h
    show bD b f m + f m * b ^ m = 0
    rw [ih (fun j hj => h j (by omega)), h m (by omega), Nat.zero_mul]
theorem bD_add {b j0 : Nat} {f g : Nat → Nat} : ∀ m, j0 < m → (∀ j, j < m → g j = f j + (if j = j0 then 1 else 0)) → bD b g m = bD b f m + b ^ j0 := by
  intro m
  induction m with
  | zero => intro h; omega
  | succ m ih =>
    intro hj h
    show bD b g m + g m * b ^ m = bD b f m + f m * b ^ m + b ^ j0
    by_cases hm : j0 = m
    · rw [h m (by omega), if_pos hm.symm, bD_congr m (fun j hj' => by rw [h j (by omega), if_neg (by omega)]; rfl : ∀ j, j < m → g j = f j), hm, Nat.add_mul, Nat.one_mul]; omega
    · rw [ih (by omega) (fun j hj' => h j (by omega)), h m (by omega), if_neg (fun z => hm z.symm), Nat.add_zero]; omega
theorem bD_lt {f : Nat → Nat} : ∀ m, (∀ j, j < m → f j < 32) → bD 32 f m < 32 ^ m := by
  intro m
  induction m with
  | zero => intro _; show 0 < 1; omega
  | succ m ih =>
    intro h
    show bD 32 f m + f m * 32 ^ m < 32 ^ (m + 1)
    have h1 := ih (fun j hj => h j (by omega))
    have h2 := h m (by omega)
    rw [Nat.pow_succ]
    have h3 : f m * 32 ^ m ≤ 31 * 32 ^ m := Nat.mul_le_mul_right _ (by omega)
    omega
theorem bD_inj {f g : Nat → Nat} : ∀ m, (∀ j, j < m → f j < 32) → (∀ j, j < m → g j < 32) → bD 32 f m = bD 32 g m → ∀ j, j < m → f j = g j := by
  intro m
  induction m with
  | zero => intro _ _ _ j hj; omega
  | succ m ih =>
    intro hf hg h
    have h : bD 32 f m + f m * 32 ^ m = bD 32 g m + g m * 32 ^ m := h
    have l1 := bD_lt m (fun j hj => hf j (by omega))
    have l2 := bD_lt m (fun j hj => hg j (by omega))
    have hp : 0 < 32 ^ m := Nat.pow_pos (by omega)
    have h1 : f m = g m := by
      have e1 : (bD 32 f m + f m * 32 ^ m) / 32 ^ m = f m := by rw [Nat.add_mul_div_right _ _ hp, Nat.div_eq_of_lt l1, Nat.zero_add]
      have e2 : (bD 32 g m + g m * 32 ^ m) / 32 ^ m = g m := by rw [Nat.add_mul_div_right _ _ hp, Nat.div_eq_of_lt l2, Nat.zero_add]
      rw [← e1, h, e2]
    have h2 : bD 32 f m = bD 32 g m := by rw [h1] at h; omega
    intro j hj
    by_cases hjm : j = m
    · rw [hjm]; exact h1
    · exact ih (fun j hj => hf j (by omega)) (fun j hj => hg j (by omega)) h2 j (by omega)
theorem bD_mono {f g : Nat → Nat} : ∀ m, (∀ j, j < m → f j ≤ g j) → bD 1 f m ≤ bD 1 g m := by
  intro m
  induction m with
  | zero => intro _; exact Nat.le_refl _
  | succ m ih =>
    intro h
    show bD 1 f m + f m * 1 ^ m ≤ bD 1 g m + g m * 1 ^ m
    rw [Nat.one_pow, Nat.mul_one, Nat.mul_one]
    have := ih (fun j hj => h j (by omega)); have := h m (by omega); omega
theorem bD_one {f g : Nat → Nat} : ∀ m, (∀ j, j < m → f j ≤ g j) → bD 1 f m = bD 1 g m → ∀ j, j < m → f j = g j := by
  intro m
  induction m with
  | zero => intro _ _ j hj; omega
  | succ m ih =>
    intro h he
    have he : bD 1 f m + f m * 1 ^ m = bD 1 g m + g m * 1 ^ m := he
    rw [Nat.one_pow, Nat.mul_one, Nat.mul_one] at he
    have h1 := bD_mono m (fun j hj => h j (by omega))
    have h2 := h m (by omega)
    intro j hj
    by_cases hjm : j = m
    · rw [hjm]; omega
    · exact ih (fun j hj => h j (by omega)) (by omega) j (by omega)
theorem bP {b s : Nat} {e : Nat → Nat} : ∀ n, (∀ i, i < n → e i < 12) → wp_cs (fun i => b ^ e i) s n = bD b (fun j => iv_cnt (fun i => s.testBit i && decide (e i = j)) n) 12 := by
  intro n
  induction n with
  | zero => intro _; exact (bD_zero 12 (fun j _ => rfl)).symm
  | succ n ih =>
    intro h
    rw [wp_cs_s, ih (fun i hi => h i (by omega))]
    by_cases hb : s.testBit n = true
    · rw [if_pos hb]
      refine (bD_add 12 (h n (by omega)) (fun j _ => ?_)).symm
      rw [iv_cnt_s, hb, Bool.true_and]
      by_cases hj : e n = j
      · rw [if_pos (decide_eq_true hj), if_pos hj.symm]
      · rw [if_neg (fun z => hj (of_decide_eq_true z)), if_neg (fun z => hj z.symm)]
    · rw [if_neg hb, Nat.add_zero]
      refine bD_congr 12 (fun j _ => ?_)
      have hb2 : s.testBit n = false := by simpa using hb
      rw [iv_cnt_s, hb2, Bool.false_and, if_neg (by decide), Nat.add_zero]
/-- a set is a round just where its weights agree -/
theorem b_round {x y e : Nat → Nat} {n s : Nat} (n12 : n ≤ 12) (hy : ∀ i, i < n → e (y i) < n ∧ y (e (y i)) = y i) (hx : ∀ i, i < n → e (x i) < n ∧ y (e (x i)) = x i) : wp_cs (fun i => 32 ^ e (y i)) s n = wp_cs (fun i => 32 ^ e (x i)) s n ↔ ∀ i, i < n → s.testBit i = true → iv_cnt (fun o => s.testBit o && decide (x o = x i)) n = iv_cnt (fun o => s.testBit o && decide (y o = x i)) n := by
  have ex : ∀ i, i < n → e (x i) < 12 := fun i hi => by have := (hx i hi).1; omega
  have ey : ∀ i, i < n → e (y i) < 12 := fun i hi => by have := (hy i hi).1; omega
  have dx : ∀ i, i < n → iv_cnt (fun o => s.testBit o && decide (e (x o) = e (x i))) n = iv_cnt (fun o => s.testBit o && decide (x o = x i)) n := fun i hi => iv_cnt_congr n (fun o ho => by
    congr 1
    refine decide_eq_decide.mpr ⟨fun z => ?_, fun z => by rw [z]⟩
    rw [← (hx o ho).2, z, (hx i hi).2])
  have dy : ∀ i, i < n → iv_cnt (fun o => s.testBit o && decide (e (y o) = e (x i))) n = iv_cnt (fun o => s.testBit o && decide (y o = x i)) n := fun i hi => iv_cnt_congr n (fun o ho => by
    congr 1
    refine decide_eq_decide.mpr ⟨fun z => ?_, fun z => by rw [z]⟩
    rw [← (hy o ho).2, z, (hx i hi).2])
  have bx : ∀ j, j < 12 → iv_cnt (fun o => s.testBit o && decide (e (x o) = j)) n < 32 := fun j _ => by have := iv_cnt_bd (fun o => s.testBit o && decide (e (x o) = j)) n; omega
  have by' : ∀ j, j < 12 → iv_cnt (fun o => s.testBit o && decide (e (y o) = j)) n < 32 := fun j _ => by have := iv_cnt_bd (fun o => s.testBit o && decide (e (y o) = j)) n; omega
  constructor
  · intro h i hi hs
    rw [bP (e := fun i => e (y i)) n ey, bP (e := fun i => e (x i)) n ex] at h
    have := bD_inj 12 by' bx h (e (x i)) (ex i hi)
    rw [← dx i hi, ← dy i hi]; exact this.symm
  · intro h
    rw [bP (e := fun i => e (y i)) n ey, bP (e := fun i => e (x i)) n ex]
    have hle : ∀ j, j < 12 → iv_cnt (fun o => s.testBit o && decide (e (x o) = j)) n ≤ iv_cnt (fun o => s.testBit o && decide (e (y o) = j)) n := fun j hj => by
      by_cases hz : 0 < iv_cnt (fun o => s.testBit o && decide (e (x o) = j)) n
      · obtain ⟨i, i1, i2⟩ := iv_cnt_pos.mp hz
        rw [Bool.and_eq_true] at i2
        have i3 := of_decide_eq_true i2.2
        have := h i i1 i2.1
        rw [← i3, dx i i1, dy i i1]; omega
      · omega
    have e1 : bD 1 (fun j => iv_cnt (fun o => s.testBit o && decide (e (x o) = j)) n) 12 = bD 1 (fun j => iv_cnt (fun o => s.testBit o && decide (e (y o) = j)) n) 12 := by
      rw [← bP (b := 1) (e := fun i => e (x i)) n ex, ← bP (b := 1) (e := fun i => e (y i)) n ey]
      congr 1
      funext i
      rw [Nat.one_pow, Nat.one_pow]
    exact bD_congr 12 (fun j hj => (bD_one 12 hle e1 j hj).symm)
/-- a recursion upwards -/
theorem wu_ex (F : (Nat → Nat) → Nat → Nat) (hF : ∀ g h s, (∀ t, t < s → g t = h t) → F g s = F h s) : ∀ m, ∃ G : Nat → Nat, ∀ s, s < m → G s = F G s := by
  intro m
  induction m with
  | zero => exact ⟨fun _ => 0, fun s hs => absurd hs (by omega)⟩
  | succ m ih =>
    obtain ⟨G, hG⟩ := ih
    refine ⟨fun t => if t = m then F G m else G t, fun s hs => ?_⟩
    have hl : ∀ s, s ≤ m → F (fun t => if t = m then F G m else G t) s = F G s := fun s hs => hF _ _ s (fun t ht => if_neg (by omega))
    rw [hl s (by omega)]
    show (if s = m then F G m else G s) = _
    by_cases hsm : s = m
    · rw [if_pos hsm, hsm]
    · rw [if_neg hsm]; exact hG s (by omega)
/-- the most of those of s -/
def bmx (g : Nat → Nat) (s : Nat) : Nat → Nat
  | 0 => 0
  | k + 1 => if s.testBit k = true then max (bmx g s k) (g k) else bmx g s k
theorem bmx_t {g : Nat → Nat} {s k : Nat} (h : s.testBit k = true) : bmx g s (k + 1) = max (bmx g s k) (g k) := if_pos h
theorem bmx_f {g : Nat → Nat} {s k : Nat} (h : ¬ s.testBit k = true) : bmx g s (k + 1) = bmx g s k := if_neg h
theorem bmx_ok (g : Nat → Nat) (s : Nat) : ∀ n, (∀ i, i < n → s.testBit i = true → g i ≤ bmx g s n) ∧ (bmx g s n = 0 ∨ ∃ i, i < n ∧ s.testBit i = true ∧ bmx g s n = g i) := by
  intro n
  induction n with
  | zero => exact ⟨fun i hi => absurd hi (by omega), Or.inl rfl⟩
  | succ n ih =>
    obtain ⟨h1, h2⟩ := ih
    by_cases hb : s.testBit n = true
    · rw [bmx_t hb]
      refine ⟨fun i hi hs => ?_, ?_⟩
      · by_cases hin : i = n
        · subst hin; omega
        · have := h1 i (by omega) hs; omega
      · by_cases hm : bmx g s n ≤ g n
        · exact Or.inr ⟨n, by omega, hb, by omega⟩
        · rcases h2 with h2 | ⟨i, i1, i2, i3⟩
          · omega
          · exact Or.inr ⟨i, by omega, i2, by omega⟩
    · rw [bmx_f hb]
      refine ⟨fun i hi hs => ?_, ?_⟩
      · by_cases hin : i = n
        · subst hin; exact absurd hs hb
        · exact h1 i (by omega) hs
      · rcases h2 with h2 | ⟨i, i1, i2, i3⟩
        · exact Or.inl h2
        · exact Or.inr ⟨i, by omega, i2, i3⟩
theorem bmx_congr {g h : Nat → Nat} {s : Nat} : ∀ n, (∀ i, i < n → s.testBit i = true → g i = h i) → bmx g s n = bmx h s n := by
  intro n
  induction n with
  | zero => intro _; rfl
  | succ n ih =>
    intro hh
    have i1 := ih (fun i hi => hh i (by omega))
    by_cases hb : s.testBit n = true
    · rw [bmx_t hb, bmx_t hb, i1, hh n (by omega) hb]
    · rw [bmx_f hb, bmx_f hb, i1]
theorem bx_xbit (s i j : Nat) : (s ^^^ 2 ^ i).testBit j = (s.testBit j ^^ decide (i = j)) := by rw [Nat.testBit_xor, Nat.testBit_two_pow]
theorem bx_xlt {s i : Nat} (h : s.testBit i = true) : s ^^^ 2 ^ i < s := by
  have h1 : (s ^^^ 2 ^ i).testBit i = false := by rw [bx_xbit, h, decide_eq_true rfl]; rfl
  have h2 : (s ^^^ 2 ^ i) ||| 2 ^ i = s := Nat.eq_of_testBit_eq (fun j => by
    rw [wz_or_bit, bx_xbit]
    by_cases hij : i = j
    · subst hij; rw [h, decide_eq_true rfl]; rfl
    · rw [decide_eq_false hij, Bool.or_false, Bool.xor_false])
  have := wz_or_gt h1
  omega
theorem bx_xdf {s i : Nat} (h : s.testBit i = true) : mj_df s (2 ^ i) = s ^^^ 2 ^ i := Nat.eq_of_testBit_eq (fun j => by
  rw [mj_df_bit, bx_xbit, Nat.testBit_two_pow]
  by_cases hij : i = j
  · subst hij; rw [h, decide_eq_true rfl]; rfl
  · rw [decide_eq_false hij, Bool.xor_false]; cases s.testBit j <;> rfl)
/-- into how many rounds at most s falls -/
theorem b_f (B : Nat → Bool) (n : Nat) : ∃ f : Nat → Nat, f 0 = 0 ∧ ∀ s, 0 < s → s < 4096 → f s = bmx (fun i => f (s ^^^ 2 ^ i)) s n + (if B s = true then 1 else 0) := by
  obtain ⟨f, hf⟩ := wu_ex (fun f s => if s = 0 then 0 else bmx (fun i => f (s ^^^ 2 ^ i)) s n + (if B s = true then 1 else 0)) (fun g h s hs => by
    show (if s = 0 then 0 else bmx (fun i => g (s ^^^ 2 ^ i)) s n + (if B s = true then 1 else 0)) = (if s = 0 then 0 else bmx (fun i => h (s ^^^ 2 ^ i)) s n + (if B s = true then 1 else 0))
    rw [bmx_congr n (fun i _ hb => hs _ (bx_xlt hb))]) 4096
  refine ⟨f, by rw [hf 0 (by omega)]; exact if_pos rfl, fun s h1 h2 => ?_⟩
  have := hf s h2
  rw [if_neg (by omega)] at this
  exact this
theorem b_le {B : Nat → Bool} {n : Nat} {f : Nat → Nat} (f0 : f 0 = 0) (hf : ∀ s, 0 < s → s < 4096 → f s = bmx (fun i => f (s ^^^ 2 ^ i)) s n + (if B s = true then 1 else 0)) : ∀ s, s < 4096 → f s ≤ s := by
  intro s
  induction s using Nat.strongRecOn with
  | ind s ih =>
    intro hs
    by_cases h0 : s = 0
    · rw [h0, f0]; omega
    · rw [hf s (by omega) hs]
      have h1 : bmx (fun i => f (s ^^^ 2 ^ i)) s n ≤ s - 1 := by
        rcases (bmx_ok (fun i => f (s ^^^ 2 ^ i)) s n).2 with h | ⟨i, i1, i2, i3⟩
        · rw [h]; omega
        · rw [i3]
          have := bx_xlt i2
          have := ih (s ^^^ 2 ^ i) this (by omega)
          show f (s ^^^ 2 ^ i) ≤ s - 1
          omega
      by_cases hB : B s = true
      · rw [if_pos hB]; omega
      · rw [if_neg hB]; omega
/-- those that stand right are rounds of their own -/
theorem b_split {B : Nat → Bool} {n W : Nat} {f : Nat → Nat} (n12 : n ≤ 12) (f0 : f 0 = 0) (hf : ∀ s, 0 < s → s < 4096 → f s = bmx (fun i => f (s ^^^ 2 ^ i)) s n + (if B s = true then 1 else 0)) (hB : ∀ s, B s = B (s &&& W)) (hB0 : B 0 = true) : ∀ s, s < 2 ^ n → f s = f (s &&& W) + mj_pc n (mj_df s W) := by
  have h4096 : 2 ^ n ≤ 4096 := Nat.pow_le_pow_right (n := 2) (by omega) n12
  intro s
  induction s using Nat.strongRecOn with
  | ind s ih =>
    intro hs
    by_cases h0 : s = 0
    · subst h0
      have e1 : 0 &&& W = 0 := Nat.zero_and W
      have e2 : mj_pc n (mj_df 0 W) = 0 := iv_cnt_zero (fun i _ => by
        show (mj_df 0 W).testBit i = false
        rw [mj_df_bit, Nat.zero_testBit, Bool.false_and])
      rw [e1, e2]; omega
    · have hin : ∀ i, s.testBit i = true → i < n := fun i hi => by
        by_cases h : i < n
        · exact h
        · rw [Nat.testBit_lt_two_pow (Nat.lt_of_lt_of_le hs (Nat.pow_le_pow_right (n := 2) (by omega) (by omega)))] at hi; cases hi
      -- one of W less
      have hW : ∀ i, s.testBit i = true → W.testBit i = true → f (s ^^^ 2 ^ i) = f ((s &&& W) ^^^ 2 ^ i) + mj_pc n (mj_df s W) := fun i h1 h2 => by
        have := bx_xlt h1
        rw [ih _ this (by omega)]
        have e1 : (s ^^^ 2 ^ i) &&& W = (s &&& W) ^^^ 2 ^ i := Nat.eq_of_testBit_eq (fun j => by
          rw [Nat.testBit_and, bx_xbit, bx_xbit, Nat.testBit_and]
          by_cases hij : i = j
          · subst hij; rw [h1, h2, decide_eq_true rfl]; rfl
          · rw [decide_eq_false hij, Bool.xor_false, Bool.xor_false])
        have e2 : mj_df (s ^^^ 2 ^ i) W = mj_df s W := Nat.eq_of_testBit_eq (fun j => by
          rw [mj_df_bit, mj_df_bit, bx_xbit]
          by_cases hij : i = j
          · subst hij; rw [h2, Bool.not_true, Bool.and_false, Bool.and_false]
          · rw [decide_eq_false hij, Bool.xor_false])
        rw [e1, e2]
      -- one that stands right less
      have hR : ∀ i, s.testBit i = true → W.testBit i = false → f (s ^^^ 2 ^ i) + 1 = f (s &&& W) + mj_pc n (mj_df s W) := fun i h1 h2 => by
        have := bx_xlt h1
        rw [ih _ this (by omega)]
        have e1 : (s ^^^ 2 ^ i) &&& W = s &&& W := Nat.eq_of_testBit_eq (fun j => by
          rw [Nat.testBit_and, bx_xbit, Nat.testBit_and]
          by_cases hij : i = j
          · subst hij; rw [h2, Bool.and_false, Bool.and_false]
          · rw [decide_eq_false hij, Bool.xor_false])
        have e2 : mj_pc n (mj_df s W) = mj_pc n (mj_df (s ^^^ 2 ^ i) W) + 1 := by
          have h3 := iv_cnt_one (p := fun j => (mj_df (s ^^^ 2 ^ i) W).testBit j) (q := fun j => (mj_df s W).testBit j) (k := i) n (hin i h1) (fun j _ hji => by
            show (mj_df s W).testBit j = (mj_df (s ^^^ 2 ^ i) W).testBit j
            rw [mj_df_bit, mj_df_bit, bx_xbit, decide_eq_false (fun z => hji z.symm), Bool.xor_false]) (by
            show (mj_df (s ^^^ 2 ^ i) W).testBit i = false
            rw [mj_df_bit, bx_xbit, h1, decide_eq_true rfl]; rfl)
          have h4 : (mj_df s W).testBit i = true := by rw [mj_df_bit, h1, h2]; rfl
          rw [if_pos h4] at h3
          exact h3
        rw [e1, e2]; omega
      have hob := bmx_ok (fun i => f (s ^^^ 2 ^ i)) s n
      rw [hf s (by omega) (by omega), hB s]
      by_cases hA : s &&& W = 0
      · -- none of W is left
        have hnW : ∀ i, s.testBit i = true → W.testBit i = false := fun i hi => by
          have : (s &&& W).testBit i = false := by rw [hA]; exact Nat.zero_testBit i
          rw [Nat.testBit_and, hi, Bool.true_and] at this; exact this
        obtain ⟨i0, hi0⟩ : ∃ i, s.testBit i = true := Nat.exists_testBit_of_ne_zero h0
        have hr0 := hR i0 hi0 (hnW i0 hi0)
        rw [hA, f0] at hr0 ⊢
        rw [hB0, if_pos rfl]
        have hlow := hob.1 i0 (hin i0 hi0) hi0
        have hlow : f (s ^^^ 2 ^ i0) ≤ bmx (fun i => f (s ^^^ 2 ^ i)) s n := hlow
        rcases hob.2 with h | ⟨i, i1, i2, i3⟩
        · omega
        · have hri := hR i i2 (hnW i i2)
          rw [hA, f0] at hri
          have i3 : bmx (fun i => f (s ^^^ 2 ^ i)) s n = f (s ^^^ 2 ^ i) := i3
          omega
      · have hAl : s &&& W < 4096 := Nat.lt_of_le_of_lt Nat.and_le_left (by omega)
        have hfA := hf (s &&& W) (by omega) hAl
        have hoA := bmx_ok (fun i => f ((s &&& W) ^^^ 2 ^ i)) (s &&& W) n
        have hb1 : (if B (s &&& W) = true then 1 else 0) ≤ 1 := by split <;> omega
        obtain ⟨i0, hi0⟩ : ∃ i, (s &&& W).testBit i = true := Nat.exists_testBit_of_ne_zero hA
        have hi0' := hi0
        rw [Nat.testBit_and, Bool.and_eq_true] at hi0'
        have hlow0 : f (s ^^^ 2 ^ i0) ≤ bmx (fun i => f (s ^^^ 2 ^ i)) s n := hob.1 i0 (hin i0 hi0'.1) hi0'.1
        have hw0 := hW i0 hi0'.1 hi0'.2
        have hup : bmx (fun i => f (s ^^^ 2 ^ i)) s n ≤ bmx (fun i => f ((s &&& W) ^^^ 2 ^ i)) (s &&& W) n + mj_pc n (mj_df s W) := by
          rcases hob.2 with h | ⟨i, i1, i2, i3⟩
          · omega
          · have i3 : bmx (fun i => f (s ^^^ 2 ^ i)) s n = f (s ^^^ 2 ^ i) := i3
            cases hWi : W.testBit i with
            | true =>
              have h1 := hW i i2 hWi
              have h2 : f ((s &&& W) ^^^ 2 ^ i) ≤ bmx (fun i => f ((s &&& W) ^^^ 2 ^ i)) (s &&& W) n := hoA.1 i i1 (by rw [Nat.testBit_and, i2, hWi]; rfl)
              omega
            | false =>
              have h1 := hR i i2 hWi
              omega
        have hdn : bmx (fun i => f ((s &&& W) ^^^ 2 ^ i)) (s &&& W) n + mj_pc n (mj_df s W) ≤ bmx (fun i => f (s ^^^ 2 ^ i)) s n := by
          rcases hoA.2 with h | ⟨i, i1, i2, i3⟩
          · omega
          · have i3 : bmx (fun i => f ((s &&& W) ^^^ 2 ^ i)) (s &&& W) n = f ((s &&& W) ^^^ 2 ^ i) := i3
            rw [Nat.testBit_and, Bool.and_eq_true] at i2
            have h1 := hW i i2.1 i2.2
            have h2 : f (s ^^^ 2 ^ i) ≤ bmx (fun i => f (s ^^^ 2 ^ i)) s n := hob.1 i i1 i2.1
            omega
        omega
/-- who stands right weighs nothing -/
theorem b_wt {X Y : Nat → Nat} {s W : Nat} : ∀ m, (∀ i, i < m → W.testBit i = false → X i = Y i) → wp_cs Y s m + wp_cs X (s &&& W) m = wp_cs X s m + wp_cs Y (s &&& W) m := by
  intro m
  induction m with
  | zero => intro _; rfl
  | succ m ih =>
    intro h
    have h1 := ih (fun i hi => h i (by omega))
    rw [wp_cs_s, wp_cs_s, wp_cs_s, wp_cs_s, Nat.testBit_and]
    cases hs : s.testBit m with
    | false => simp; omega
    | true =>
      cases hw : W.testBit m with
      | true => simp; omega
      | false => have := h m (by omega) hw; simp; omega
