/-! the shape of the heap behind the two constructors: w which text the reader holds, c which of the two late rows are made (0 none, 1 sums, 2 parts, 3 sums then parts, 4 parts then sums) -/
def mj_sr (c : Nat) : Value := if c = 1 ∨ c = 3 then .ref 242 else if c = 4 then .ref 243 else .null
def mj_pr (c : Nat) : Value := if c = 2 ∨ c = 4 then .ref 242 else if c = 3 then .ref 243 else .null
noncomputable def mj_HR (w c a k : Nat) : Value := if a = 159 ∧ k = 6 then .retAddr w else if a = 189 ∧ k = 4 then mj_sr c else if a = 189 ∧ k = 5 then mj_pr c else if (a = 242 ∧ 1 ≤ c) ∨ (a = 243 ∧ 3 ≤ c) then .null else mj_hM.2.2.1 a k
def mj_cx (c : Nat) : List (Nat × Nat) := if c = 1 then [(101, 4096)] else if c = 2 then [(100, 4096)] else if c = 3 then [(101, 4096), (100, 4096)] else if c = 4 then [(100, 4096), (101, 4096)] else []
def mj_CL (c : Nat) : List (Nat × Nat) := mj_CL0 ++ mj_cx c
noncomputable def mj_hw (w c : Nat) (hi : Nat → Nat → Int32) (hl : Nat → Nat → Int64) : mj_H := (hi, hl, mj_HR w c, mj_CL c)
/-- the start is of this form -/
theorem mj_hM_hw : mj_hM = mj_hw 3 0 mj_hM.1 mj_hM.2.1 := by
  have e : mj_HR 3 0 = mj_hM.2.2.1 := by
    funext a k
    unfold mj_HR
    by_cases q1 : a = 159 ∧ k = 6
    · rw [if_pos q1, q1.1, q1.2]; exact (mj_RL_at (show (159, 6, .retAddr 3) ∈ mj_RL by decide +kernel)).symm
    · rw [if_neg q1]
      by_cases q2 : a = 189 ∧ k = 4
      · rw [if_pos q2, q2.1, q2.2]; exact (mj_RL_at (show (189, 4, .null) ∈ mj_RL by decide +kernel)).symm
      · rw [if_neg q2]
        by_cases q3 : a = 189 ∧ k = 5
        · rw [if_pos q3, q3.1, q3.2]; exact (mj_RL_at (show (189, 5, .null) ∈ mj_RL by decide +kernel)).symm
        · rw [if_neg q3, if_neg (by omega)]
  have e2 : mj_CL 0 = mj_hM.2.2.2 := by rw [mj_hM_cells]; decide +kernel
  unfold mj_hw
  rw [e, e2]
