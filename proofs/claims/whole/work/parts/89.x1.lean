/-! who sits beside whom: P u v is 1 where u pinches v; a place is a set and who sits last (10: nobody yet) -/
def sa_b (P : Nat → Nat → Nat) (last x : Nat) : Nat := if last = 10 then 0 else P last x + P x last
def sa_g (P : Nat → Nat → Nat) (Q : Nat → Nat) (s last x : Nat) : Nat := sa_b P last x + Q (11 * (s ||| 2 ^ x) + x)
def sa_ix (P : Nat → Nat → Nat) (Q : Nat → Nat) (T s last : Nat) : Option Nat := wz_ix (sa_g P Q s last) (wbl T s) 10
def sa_F (P : Nat → Nat → Nat) (T : Nat) (Q : Nat → Nat) (s last : Nat) : Nat := wz_v (sa_g P Q s last) 0 (sa_ix P Q T s last)
theorem sa_Q (P : Nat → Nat → Nat) (T : Nat) : ∃ Q : Nat → Nat, ∀ s last, s ≤ 1023 → last ≤ 10 → Q (11 * s + last) = sa_F P T Q s last := by
  obtain ⟨Q, hQ⟩ := wz_ex (fun Q k => sa_F P T Q (k / 11) (k % 11)) (11 * 1023 + 10) (fun g h k hk => by
    have hg : ∀ i, i < 10 → (wbl T (k / 11)).testBit i = false → sa_g P g (k / 11) (k % 11) i = sa_g P h (k / 11) (k % 11) i := fun i hi hc => by
      have := wz_or_gt ((wbl_clear hi).mp hc).1
      unfold sa_g; rw [hk _ (by omega)]
    show sa_F P T g (k / 11) (k % 11) = sa_F P T h (k / 11) (k % 11)
    unfold sa_F sa_ix
    rw [wz_cg 10 hg]
    cases hw : wz_ix (sa_g P h (k / 11) (k % 11)) (wbl T (k / 11)) 10 with
    | none => rfl
    | some j =>
      obtain ⟨j1, j2, _, _⟩ := (wz_ix_ok _ _ 10).2 j hw
      exact hg j j1 j2)
  refine ⟨Q, fun s last hs hl => ?_⟩
  have := hQ (11 * s + last) (by omega)
  rw [this]
  show sa_F P T Q ((11 * s + last) / 11) ((11 * s + last) % 11) = _
  rw [show (11 * s + last) / 11 = s by omega, show (11 * s + last) % 11 = last by omega]
theorem sa_b_bd {P : Nat → Nat → Nat} (hP : ∀ u v, P u v ≤ 1) (last x : Nat) : sa_b P last x ≤ 2 := by
  unfold sa_b
  split
  · omega
  · have := hP last x; have := hP x last; omega
theorem sa_bd {P : Nat → Nat → Nat} {T : Nat} {Q : Nat → Nat} (hP : ∀ u v, P u v ≤ 1) (hQ : ∀ s last, s ≤ 1023 → last ≤ 10 → Q (11 * s + last) = sa_F P T Q s last) : ∀ s last, s ≤ 1023 → last ≤ 10 → Q (11 * s + last) ≤ 2 * (1023 - s) := by
  have : ∀ k s last, s ≤ 1023 → last ≤ 10 → 1023 - s = k → Q (11 * s + last) ≤ 2 * k := by
    intro k
    induction k using Nat.strongRecOn with
    | ind k ih =>
      intro s last hs hl hk
      rw [hQ s last hs hl]
      unfold sa_F
      cases hw : sa_ix P Q T s last with
      | none => exact Nat.zero_le _
      | some i =>
        obtain ⟨h1, h2, _, _⟩ := (wz_ix_ok _ _ 10).2 i hw
        have h2' := ((wbl_clear h1).mp h2).1
        have h3 := wz_or_gt h2'
        have h4 : s ||| 2 ^ i < 2 ^ 10 := Nat.or_lt_two_pow (by omega) (Nat.pow_lt_pow_right (by omega) h1)
        have h5 := ih (1023 - (s ||| 2 ^ i)) (by omega) (s ||| 2 ^ i) i (by omega) (by omega) rfl
        have h6 := sa_b_bd hP last i
        show sa_g P Q s last i ≤ 2 * k
        unfold sa_g
        omega
  exact fun s last hs hl => this _ s last hs hl rfl
theorem sa_ok0 {P : Nat → Nat → Nat} {Q : Nat → Nat} {T s last : Nat} : (sa_ix P Q T s last = none → ∀ x, x < 10 → (wbl T s).testBit x = true) ∧ (∀ i, sa_ix P Q T s last = some i → i < 10 ∧ (wbl T s).testBit i = false) :=
  ⟨fun h => (wz_ix_ok _ _ 10).1 h, fun i h => ⟨((wz_ix_ok _ _ 10).2 i h).1, ((wz_ix_ok _ _ 10).2 i h).2.1⟩⟩
theorem sa_T {P : Nat → Nat → Nat} {T : Nat} {Q : Nat → Nat} (hT : T < 1024) (hQ : ∀ s last, s ≤ 1023 → last ≤ 10 → Q (11 * s + last) = sa_F P T Q s last) (last : Nat) (hl : last ≤ 10) : Q (11 * T + last) = 0 := by
  rw [hQ T last (by omega) hl]
  unfold sa_F
  cases hw : sa_ix P Q T T last with
  | none => rfl
  | some i =>
    obtain ⟨h1, h2, _, _⟩ := (wz_ix_ok _ _ 10).2 i hw
    have := (wbl_clear h1).mp h2
    rw [this.1] at this; cases this.2
/-- the order: the set that sits, and who sits last -/
def sa_W (P : Nat → Nat → Nat) (Q : Nat → Nat) (T : Nat) : Nat → Nat × Nat
  | 0 => (0, 10)
  | k + 1 => match sa_ix P Q T (sa_W P Q T k).1 (sa_W P Q T k).2 with
    | none => sa_W P Q T k
    | some i => ((sa_W P Q T k).1 ||| 2 ^ i, i)
theorem sa_W_s {P : Nat → Nat → Nat} {Q : Nat → Nat} {T k i : Nat} (h : sa_ix P Q T (sa_W P Q T k).1 (sa_W P Q T k).2 = some i) : sa_W P Q T (k + 1) = ((sa_W P Q T k).1 ||| 2 ^ i, i) := by
  show (match sa_ix P Q T (sa_W P Q T k).1 (sa_W P Q T k).2 with | none => sa_W P Q T k | some i => ((sa_W P Q T k).1 ||| 2 ^ i, i)) = _
  rw [h]
/-- an order of T by any choice -/
theorem wo_gen {S : Nat → Nat} {ix : Nat → Option Nat} {T : Nat} (hT : T < 1024) (s0 : S 0 = 0) (ss : ∀ k i, ix k = some i → S (k + 1) = S k ||| 2 ^ i) (h0 : ∀ k, ix k = none → ∀ x, x < 10 → (wbl T (S k)).testBit x = true) (h1 : ∀ k i, ix k = some i → i < 10 ∧ (wbl T (S k)).testBit i = false) : ∀ k, k ≤ mj_pc 10 T → (∀ x, (S k).testBit x = true → T.testBit x = true) ∧ S k < 1024 ∧ mj_pc 10 (S k) = k ∧ (k < mj_pc 10 T → ∃ i, ix k = some i) := by
  have hsome : ∀ k, (mj_pc 10 (S k) = k) → k < mj_pc 10 T → ∃ i, ix k = some i := by
    intro k hk hlt
    cases hw : ix k with
    | some i => exact ⟨i, rfl⟩
    | none =>
      exfalso
      have hall := h0 _ hw
      have : mj_pc 10 T ≤ mj_pc 10 (S k) := iv_cnt_mono 10 (fun i hi hp => by
        have h2 := hall i hi
        rw [wbl_bit hi] at h2
        have hp : T.testBit i = true := hp
        rw [hp] at h2
        simpa using h2)
      omega
  intro k
  induction k with
  | zero =>
    intro hk
    have hz : mj_pc 10 (S 0) = 0 := iv_cnt_zero (fun i _ => by rw [s0]; exact Nat.zero_testBit i)
    refine ⟨fun x hx => ?_, ?_, hz, hsome 0 hz⟩
    · rw [s0, Nat.zero_testBit] at hx; cases hx
    · rw [s0]; omega
  | succ k ih =>
    intro hk
    obtain ⟨a, b, e, f⟩ := ih (by omega)
    obtain ⟨i, hi⟩ := f (by omega)
    obtain ⟨i1, i2⟩ := h1 _ _ hi
    obtain ⟨i3, i4⟩ := (wbl_clear i1).mp i2
    have hpc : mj_pc 10 (S (k + 1)) = k + 1 := by
      rw [ss k i hi]
      have := iv_cnt_one (p := fun j => (S k).testBit j) (q := fun j => (S k ||| 2 ^ i).testBit j) (k := i) 10 i1 (fun j _ hji => by
        show (S k ||| 2 ^ i).testBit j = _
        rw [wz_or_bit, decide_eq_false (fun z => hji z.symm), Bool.or_false]) i3
      have h2 : (S k ||| 2 ^ i).testBit i = true := by rw [wz_or_bit, decide_eq_true rfl, Bool.or_true]
      rw [if_pos h2] at this
      have e' : iv_cnt (fun j => (S k).testBit j) 10 = k := e
      show iv_cnt (fun j => (S k ||| 2 ^ i).testBit j) 10 = k + 1
      omega
    refine ⟨fun x hx => ?_, ?_, hpc, hsome _ hpc⟩
    · rw [ss k i hi] at hx
      exact mj_sub_or a i4 x hx
    · rw [ss k i hi]
      exact Nat.or_lt_two_pow (n := 10) b (Nat.pow_lt_pow_right (by omega) i1)
theorem sa_W_ok {P : Nat → Nat → Nat} {Q : Nat → Nat} {T : Nat} (hT : T < 1024) : ∀ k, k ≤ mj_pc 10 T → (∀ x, (sa_W P Q T k).1.testBit x = true → T.testBit x = true) ∧ (sa_W P Q T k).1 < 1024 ∧ mj_pc 10 (sa_W P Q T k).1 = k ∧ (k < mj_pc 10 T → ∃ i, sa_ix P Q T (sa_W P Q T k).1 (sa_W P Q T k).2 = some i) :=
  wo_gen (S := fun k => (sa_W P Q T k).1) (ix := fun k => sa_ix P Q T (sa_W P Q T k).1 (sa_W P Q T k).2) hT rfl (fun k i h => by show (sa_W P Q T (k + 1)).1 = _; rw [sa_W_s h]) (fun k h => sa_ok0.1 h) (fun k i h => sa_ok0.2 i h)
/-- who pinches whom -/
def sa_P (f t : Nat → Nat) (p u v : Nat) : Nat := if (wv_pn f t (2 ^ u) p).testBit v = true then 1 else 0
theorem sa_P_bd (f t : Nat → Nat) (p u v : Nat) : sa_P f t p u v ≤ 1 := by unfold sa_P; split <;> omega
theorem sa_P_iff (f t : Nat → Nat) (p u v : Nat) : (wv_pn f t (2 ^ u) p).testBit v = true ↔ ∃ i, i < p ∧ f i = u ∧ t i = v := by
  rw [wv_pn_bit]
  constructor
  · rintro ⟨i, h1, h2, h3⟩
    rw [Nat.testBit_two_pow] at h2
    exact ⟨i, h1, (of_decide_eq_true h2).symm, h3⟩
  · rintro ⟨i, h1, h2, h3⟩
    exact ⟨i, h1, by rw [Nat.testBit_two_pow]; exact decide_eq_true h2.symm, h3⟩
/-- who sits last, of those pressed together -/
noncomputable def sa_l (T : Nat) (o : Option Nat) : Nat := match o with | none => 10 | some j => wm T j
