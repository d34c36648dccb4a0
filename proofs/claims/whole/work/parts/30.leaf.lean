/-! leaves: what small methods answer -/
def mj_b (p : Prop) [Decidable p] : Int32 := if p then 1 else 0
theorem mj_b01 (p : Prop) [Decidable p] : (mj_b p = 0 ∨ mj_b p = 1) = True := by
  apply propext; constructor
  · intro _; trivial
  · intro _; unfold mj_b; split
    · exact Or.inr rfl
    · exact Or.inl rfl
theorem mj_r0 (x : mj_R) : (if (0 : Int32) = 0 ∨ (0 : Int32) = 1 then x else none) = x := if_pos (Or.inl rfl)
theorem mj_r1 (x : mj_R) : (if (1 : Int32) = 0 ∨ (1 : Int32) = 1 then x else none) = x := if_pos (Or.inr rfl)
section MJ30
variable (E : mj_E) (d w c : Nat) (hi : Nat → Nat → Int32) (hl : Nat → Nat → Int64)
theorem s_within (a b : Int32) : mj_dc mj_P E (d + 1) 147 [.int a, .int b] (mj_hw w c hi hl) = some (some (.int (mj_b (0 ≤ a ∧ a ≤ b))), mj_hw w c hi hl) := by
  rw [e147, q147_0, q147_13, q147_14, q147_14]
  rw [mj_r0, mj_r1]
  unfold mj_b
  by_cases h1 : a < 0
  · rw [if_pos h1, if_neg (fun z => absurd z.1 (Int32.not_le.mpr h1))]
  · rw [if_neg h1]
    by_cases h2 : b < a
    · rw [if_pos h2, if_neg (fun z => absurd z.2 (Int32.not_le.mpr h2))]
    · rw [if_neg h2, if_pos ⟨Int32.not_lt.mp h1, Int32.not_lt.mp h2⟩]
theorem s_max (a b : Int32) : mj_dc mj_P E (d + 1) 295 [.int a, .int b] (mj_hw w c hi hl) = some (some (.int (if a < b then b else a)), mj_hw w c hi hl) := by
  rw [e295, q295_0, q295_9, q295_10, q295_10]
  split <;> rfl
theorem s_min (a b : Int32) : mj_dc mj_P E (d + 1) 296 [.int a, .int b] (mj_hw w c hi hl) = some (some (.int (if b < a then b else a)), mj_hw w c hi hl) := by
  rw [e296, q296_0, q296_9, q296_10, q296_10]
  split <;> rfl
theorem s_hasX (s k : Int32) : mj_dc mj_P E (d + 1) 148 [.int s, .int k] (mj_hw w c hi hl) = some (some (.int (mj_b (¬ (s >>> (k &&& 31)) &&& 1 = 0))), mj_hw w c hi hl) := by
  rw [e148, q148_0, q148_12, q148_13, q148_13]
  rw [mj_r0, mj_r1]
  unfold mj_b
  by_cases h1 : (s >>> (k &&& 31)) &&& 1 = 0
  · rw [if_pos h1, if_neg (fun z => z h1)]
  · rw [if_neg h1, if_pos h1]
theorem s_hasM (s k : Int32) : mj_dc mj_P E (d + 1) 157 [.ref 205, .int s, .int k] (mj_hw w c hi hl) = some (some (.int (mj_b ((s >>> (k &&& 31)) &&& 1 = 1))), mj_hw w c hi hl) := by
  rw [e157, q157_0, q157_13, q157_14, q157_14]
  rw [mj_r0, mj_r1]
  unfold mj_b
  by_cases h1 : (s >>> (k &&& 31)) &&& 1 = 1
  · rw [if_neg (fun z => z h1), if_pos h1]
  · rw [if_pos h1, if_neg h1]
/-- the dealers who may come in: a fold over their numbers -/
def mj_ins (f g : Nat → Int32) (n : Nat) : Int32 := mj_fd (fun k s => if f k = 0 ∧ 0 < g k then s ||| ((1 : Int32) <<< (nI k &&& 31)) else s) n 0
theorem s_entrants (n : Nat) (hn : n ≤ 10) (hd : hi 2 0 = nI n) : mj_dc mj_P E (d + 1) 77 [.ref 2] (mj_hw w c hi hl) = some (some (.int (mj_ins (hi 7) (hi 5) n)), mj_hw w c hi hl) := by
  rw [e77_1, q77_0]
  have key := mj_loop (fun k s => mj_den mj_P E d 77 4 [.ref 2, .int s, .int (nI k)] [] (mj_hw w c hi hl)) (fun k s => if hi 7 k = 0 ∧ 0 < hi 5 k then s ||| ((1 : Int32) <<< (nI k &&& 31)) else s) n (fun _ _ => True) (fun k s hk _ => ⟨?_, trivial⟩) 0 trivial
  · refine key.1.trans ?_
    show mj_den mj_P E d 77 4 _ _ _ = _
    rw [q77_4, hd, if_pos (Int32.le_refl _), q77_48]
    rfl
  · show mj_den mj_P E d 77 4 [.ref 2, .int s, .int (nI k)] [] (mj_hw w c hi hl) = mj_den mj_P E d 77 4 _ [] (mj_hw w c hi hl)
    rw [q77_4, hd]
    simp (disch := omega) only [mj_nIle, nl_10, mj_nIc, mj_nI0, if_neg, if_pos, true_and, q77_42, mj_nIs]
    by_cases h3 : hi 7 k = 0
    · by_cases h4 : hi 5 k ≤ 0
      · rw [if_neg (fun z => z h3), if_pos h4, if_neg (fun z => absurd z.2 (Int32.not_lt.mpr h4))]
      · rw [if_neg (fun z => z h3), if_neg h4, if_pos ⟨h3, Int32.not_le.mp h4⟩]
    · rw [if_pos h3, if_neg (fun z => h3 z.1)]
end MJ30
