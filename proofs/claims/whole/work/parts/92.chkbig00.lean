def mj_lens : List mj_I → Nat
  | [] => 0
  | i :: t => i.2.1 + mj_lens t
theorem mj_ckb_cut {P : Nat → mj_Me} {own nm : String} {cc : ByteArray} {rt : Option FieldType} (n : Nat) : ∀ (l : List mj_I) (pc k : Nat), mj_ckb P own nm cc rt (l.take n) pc = true → mj_lens (l.take n) = k → mj_ckb P own nm cc rt (l.drop n) (pc + k) = true → mj_ckb P own nm cc rt l pc = true := by
  induction n with
  | zero => intro l pc k _ hk h; simp only [List.take_zero, mj_lens] at hk; subst hk; simpa using h
  | succ n ih =>
    intro l pc k h1 hk h2
    cases l with
    | nil => rfl
    | cons i t =>
      simp only [List.take_succ_cons, mj_ckb, Bool.and_eq_true] at h1
      simp only [List.take_succ_cons, mj_lens] at hk
      simp only [mj_ckb, Bool.and_eq_true]
      refine ⟨h1.1, h1.2.1, ih t (pc + i.2.1) (mj_lens (t.take n)) h1.2.2 rfl ?_⟩
      simp only [List.drop_succ_cons] at h2
      rw [Nat.add_assoc, hk]; exact h2
theorem mj_ckm_of {P : Nat → mj_Me} {M : mj_Me} (h1 : plainName M.1.cls = true) (h2 : M.2.2.1 ≤ 45) (h3 : ∀ b ∈ M.2.2.2.2, mj_ckb P M.1.cls M.1.name M.2.1 M.2.2.2.1 b.2 b.1 = true) : mj_ckm P M = true := by
  unfold mj_ckm
  rw [h1, decide_eq_true h2, Bool.true_and, Bool.true_and, List.all_eq_true]
  exact h3
def mjL151 : List mj_I := (mjB151.headD (0, [])).2
