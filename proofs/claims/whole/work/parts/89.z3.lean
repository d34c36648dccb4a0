section MJZ3
variable {E : mj_E} {d w c : Nat} {hi : mj_HI} {hl : Nat → Nat → Int64}
theorem s_rword {a b j : Nat} {Y : Nat → Int32} (hab : a < b) (hb : b ≤ 400) (hY : ∀ q, a ≤ q → q < b → hi 214 q = Y q) (hL : ∀ q, a ≤ q → q < b → ¬ Y q = 32) (h215 : ∀ k, k < 132 → hi 215 k = rV k) (hj : j < 25) (u5 : Value) : (rE Y a b j ∧ mj_den mj_P E d 181 5 [.ref 205, .int (nI a), .int (nI b), .int (nI j - 1), .int (nI (rO j - 1)), u5] [] (mj_hw w c hi hl) = some (some (.int (nI j)), mj_hw w c hi hl)) ∨ (¬ rE Y a b j ∧ ∃ u5', mj_den mj_P E d 181 5 [.ref 205, .int (nI a), .int (nI b), .int (nI j - 1), .int (nI (rO j - 1)), u5] [] (mj_hw w c hi hl) = mj_den mj_P E d 181 5 [.ref 205, .int (nI a), .int (nI b), .int (nI (j + 1) - 1), .int (nI (rO (j + 1) - 1)), u5'] [] (mj_hw w c hi hl)) := by
  obtain ⟨d1, d2, d3, d4, d5⟩ := rd.2.2 j hj
  have hpos : 1 ≤ rO j := by
    have : ∀ j, j < 25 → 1 ≤ rO j := by decide +kernel
    exact this j hj
  have e1 : nI j - 1 + 1 = nI j := Int32.sub_add_cancel _ _
  have n131 : ¬ (131 : Int32) ≤ nI (rO j - 1) := by rw [show (131 : Int32) = nI 131 from rfl, mj_nIle (by omega) (by omega)]; omega
  have h5 : mj_den mj_P E d 181 5 [.ref 205, .int (nI a), .int (nI b), .int (nI j - 1), .int (nI (rO j - 1)), u5] [] (mj_hw w c hi hl) = mj_den mj_P E d 181 20 [.ref 205, .int (nI a), .int (nI b), .int (nI j), .int (nI (rO j - 1)), .int 0] [] (mj_hw w c hi hl) := by rw [g181_5, if_neg n131, e1]
  have ek : ∀ i, nI (rO j - 1) + 1 + nI i = nI (rO j + i) := fun i => by rw [mj_nIs, mj_nIadd]; congr 1; omega
  -- where it stops
  obtain ⟨i, i1, i2, i3⟩ : ∃ i, i < rZ j + 1 ∧ (b ≤ a + i ∨ ¬ rV (rO j + i) = Y (a + i)) ∧ ∀ r, r < i → ¬ (b ≤ a + r ∨ ¬ rV (rO j + r) = Y (a + r)) := by
    rcases lp_fst (fun i => b ≤ a + i ∨ ¬ rV (rO j + i) = Y (a + i)) (rZ j + 1) with h | h
    · exfalso
      have := h (rZ j) (by omega)
      refine this ?_
      by_cases hle : b ≤ a + rZ j
      · exact Or.inl hle
      · exact Or.inr (by rw [d2]; exact fun z => hL (a + rZ j) (by omega) (by omega) z.symm)
    · exact h
  have i3' : ∀ r, r < i → a + r < b ∧ rV (rO j + r) = Y (a + r) := fun r hr => by
    have := i3 r hr
    refine ⟨?_, ?_⟩
    · by_cases h : a + r < b
      · exact h
      · exact absurd (Or.inl (by omega)) this
    · exact Decidable.byContradiction (fun z => this (Or.inr z))
  have hib : a + i ≤ b := by
    by_cases hz : i = 0
    · omega
    · have := (i3' (i - 1) (by omega)).1; omega
  have lp := lp_up (fun r => mj_den mj_P E d 181 20 [.ref 205, .int (nI a), .int (nI b), .int (nI j), .int (nI (rO j - 1)), .int (nI r)] [] (mj_hw w c hi hl)) i (fun r hr => by
    show mj_den mj_P E d 181 20 [.ref 205, .int (nI a), .int (nI b), .int (nI j), .int (nI (rO j - 1)), .int (nI r)] [] (mj_hw w c hi hl) = mj_den mj_P E d 181 20 [.ref 205, .int (nI a), .int (nI b), .int (nI j), .int (nI (rO j - 1)), .int (nI (r + 1))] [] (mj_hw w c hi hl)
    obtain ⟨r1, r2⟩ := i3' r hr
    have n1 : ¬ nI b ≤ nI (a + r) := by rw [mj_nIle (by omega) (by omega)]; omega
    have n2 : (0 ≤ nI (rO j + r) ∧ (nI (rO j + r)).toNatClampNeg < 132) := ⟨by rw [mj_nI0 (by omega)]; trivial, by rw [mj_nIc (by omega)]; omega⟩
    have n3 : (0 ≤ nI (a + r) ∧ (nI (a + r)).toNatClampNeg < 400) := ⟨by rw [mj_nI0 (by omega)]; trivial, by rw [mj_nIc (by omega)]; omega⟩
    have n4 : ¬ ¬ hi 215 (rO j + r) = hi 214 (a + r) := fun z => z (by rw [h215 _ (by omega), hY _ (by omega) (by omega)]; exact r2)
    rw [g181_20, mj_nIadd, if_neg n1, ek, if_pos n2, if_pos n3, mj_nIc (show rO j + r < 2147483648 by omega), mj_nIc (show a + r < 2147483648 by omega), if_neg n4, mj_nIs])
  have lp' : mj_den mj_P E d 181 20 [.ref 205, .int (nI a), .int (nI b), .int (nI j), .int (nI (rO j - 1)), .int 0] [] (mj_hw w c hi hl) = mj_den mj_P E d 181 20 [.ref 205, .int (nI a), .int (nI b), .int (nI j), .int (nI (rO j - 1)), .int (nI i)] [] (mj_hw w c hi hl) := lp
  have h61 : mj_den mj_P E d 181 20 [.ref 205, .int (nI a), .int (nI b), .int (nI j), .int (nI (rO j - 1)), .int (nI i)] [] (mj_hw w c hi hl) = mj_den mj_P E d 181 61 [.ref 205, .int (nI a), .int (nI b), .int (nI j), .int (nI (rO j - 1)), .int (nI i)] [] (mj_hw w c hi hl) := by
    rw [g181_20, mj_nIadd]
    by_cases hle : b ≤ a + i
    · rw [if_pos (by rw [mj_nIle (by omega) (by omega)]; exact hle)]
    · have n1 : ¬ nI b ≤ nI (a + i) := by rw [mj_nIle (by omega) (by omega)]; omega
      have n2 : (0 ≤ nI (rO j + i) ∧ (nI (rO j + i)).toNatClampNeg < 132) := ⟨by rw [mj_nI0 (by omega)]; trivial, by rw [mj_nIc (by omega)]; omega⟩
      have n3 : (0 ≤ nI (a + i) ∧ (nI (a + i)).toNatClampNeg < 400) := ⟨by rw [mj_nI0 (by omega)]; trivial, by rw [mj_nIc (by omega)]; omega⟩
      have n4 : ¬ hi 215 (rO j + i) = hi 214 (a + i) := by
        rw [h215 _ (by omega), hY _ (by omega) (by omega)]
        rcases i2 with h | h
        · exact absurd h hle
        · exact h
      rw [if_neg n1, ek, if_pos n2, if_pos n3, mj_nIc (show rO j + i < 2147483648 by omega), mj_nIc (show a + i < 2147483648 by omega), if_pos n4]
  -- on to the next word
  have hnx : mj_den mj_P E d 181 88 [.ref 205, .int (nI a), .int (nI b), .int (nI j), .int (nI (rO j - 1)), .int (nI i)] [] (mj_hw w c hi hl) = mj_den mj_P E d 181 5 [.ref 205, .int (nI a), .int (nI b), .int (nI (j + 1) - 1), .int (nI (rO (j + 1) - 1)), .int (nI i)] [] (mj_hw w c hi hl) := by
    have l2 := lp_up (fun r => mj_den mj_P E d 181 94 [.ref 205, .int (nI a), .int (nI b), .int (nI j), .int (nI (rO j + r)), .int (nI i)] [] (mj_hw w c hi hl)) (rZ j) (fun r hr => by
      show mj_den mj_P E d 181 94 [.ref 205, .int (nI a), .int (nI b), .int (nI j), .int (nI (rO j + r)), .int (nI i)] [] (mj_hw w c hi hl) = mj_den mj_P E d 181 94 [.ref 205, .int (nI a), .int (nI b), .int (nI j), .int (nI (rO j + (r + 1))), .int (nI i)] [] (mj_hw w c hi hl)
      have n2 : (0 ≤ nI (rO j + r) ∧ (nI (rO j + r)).toNatClampNeg < 132) := ⟨by rw [mj_nI0 (by omega)]; trivial, by rw [mj_nIc (by omega)]; omega⟩
      have n4 : ¬ hi 215 (rO j + r) = 32 := by rw [h215 _ (by omega)]; exact d5 r hr
      rw [g181_94, if_pos n2, mj_nIc (show rO j + r < 2147483648 by omega), if_neg n4, mj_nIs]
      rfl)
    have n2 : (0 ≤ nI (rO j + rZ j) ∧ (nI (rO j + rZ j)).toNatClampNeg < 132) := ⟨by rw [mj_nI0 (by omega)]; trivial, by rw [mj_nIc (by omega)]; omega⟩
    have n4 : hi 215 (rO j + rZ j) = 32 := by rw [h215 _ (by omega)]; exact d2
    have e2 : nI (j + 1) - 1 = nI j := mj_nIp (by omega)
    rw [g181_88, mj_nIs, show rO j - 1 + 1 = rO j + 0 by omega, l2, g181_94, if_pos n2, mj_nIc (show rO j + rZ j < 2147483648 by omega), if_pos n4, g181_115, e2, d1, show rO j + rZ j + 1 - 1 = rO j + rZ j by omega]
  have n2 : (0 ≤ nI (rO j + i) ∧ (nI (rO j + i)).toNatClampNeg < 132) := ⟨by rw [mj_nI0 (by omega)]; trivial, by rw [mj_nIc (by omega)]; omega⟩
  rw [h5, lp', h61]
  by_cases hk : rE Y a b j
  · left
    refine ⟨hk, ?_⟩
    -- all of it matches, so it stops at its end
    have hiz : i = rZ j := by
      have h1 := hk.1
      rcases Nat.lt_or_ge i (rZ j) with h | h
      · rcases i2 with h2 | h2
        · omega
        · exact absurd (hk.2 i h).symm h2
      · omega
    have q1 : ¬ ¬ nI (a + i) = nI b := fun z => z (by rw [hiz, ← hk.1]; congr 1; omega)
    have q2 : ¬ ¬ hi 215 (rO j + i) = 32 := fun z => z (by rw [h215 _ (by omega), hiz]; exact d2)
    rw [g181_61, mj_nIadd, if_neg q1, ek, if_pos n2, mj_nIc (show rO j + i < 2147483648 by omega), if_neg q2]
  · right
    refine ⟨hk, .int (nI i), ?_⟩
    rw [← hnx, g181_61, mj_nIadd]
    by_cases hend : a + i = b
    · have q1 : ¬ ¬ nI (a + i) = nI b := fun z => z (by rw [hend])
      have q2 : ¬ hi 215 (rO j + i) = 32 := by
        rw [h215 _ (by omega)]
        intro z
        rcases Nat.lt_or_ge i (rZ j) with h | h
        · exact d5 i h z
        · exact hk ⟨by omega, fun r hr => ((i3' r (by omega)).2).symm⟩
      rw [if_neg q1, ek, if_pos n2, mj_nIc (show rO j + i < 2147483648 by omega), if_pos q2]
    · have q1 : ¬ nI (a + i) = nI b := by rw [mj_nIeq (by omega) (by omega)]; exact hend
      rw [if_pos q1]
theorem s_wd {a b : Nat} {Y : Nat → Int32} (hab : a < b) (hb : b ≤ 400) (hY : ∀ q, a ≤ q → q < b → hi 214 q = Y q) (hL : ∀ q, a ≤ q → q < b → ¬ Y q = 32) (h215 : ∀ k, k < 132 → hi 215 k = rV k) : ∃ u : Int32, mj_dc mj_P E (d + 1) 181 [.ref 205, .int (nI a), .int (nI b)] (mj_hw w c hi hl) = some (some (.int u), mj_hw w c hi hl) ∧ ((∃ j, j < 25 ∧ u = nI j ∧ rE Y a b j) ∨ (u = -1 ∧ ∀ j, j < 25 → ¬ rE Y a b j)) := by
  have r0 : rO 0 - 1 = 0 := rfl
  have z1 : (-1 : Int32) = nI 0 - 1 := by decide
  rcases lp_fst (fun j => rE Y a b j) 25 with hall | ⟨j, j1, j2, j3⟩
  · have key := lp_ex (fun j (u : Value) => mj_den mj_P E d 181 5 [.ref 205, .int (nI a), .int (nI b), .int (nI j - 1), .int (nI (rO j - 1)), u] [] (mj_hw w c hi hl)) (fun _ _ => True) 25 (fun j u hj _ => by
      rcases s_rword (E := E) (d := d) (w := w) (c := c) (hl := hl) hab hb hY hL h215 hj u with ⟨h, _⟩ | ⟨_, v, h⟩
      · exact absurd h (hall j hj)
      · exact ⟨v, h, trivial⟩) (.float 0) trivial
    obtain ⟨u, ek, _⟩ := key
    have ek' : mj_den mj_P E d 181 5 [.ref 205, .int (nI a), .int (nI b), .int (-1), .int 0, .float 0] [] (mj_hw w c hi hl) = mj_den mj_P E d 181 5 [.ref 205, .int (nI a), .int (nI b), .int (nI 25 - 1), .int (nI 131), u] [] (mj_hw w c hi hl) := by rw [z1]; exact ek
    have n131 : (131 : Int32) ≤ nI 131 := by decide
    exact ⟨-1, by rw [xg181, g181_0, ek', g181_5, if_pos n131, g181_118], Or.inr ⟨rfl, hall⟩⟩
  · have key := lp_ex (fun j (u : Value) => mj_den mj_P E d 181 5 [.ref 205, .int (nI a), .int (nI b), .int (nI j - 1), .int (nI (rO j - 1)), u] [] (mj_hw w c hi hl)) (fun _ _ => True) j (fun i u hi' _ => by
      rcases s_rword (E := E) (d := d) (w := w) (c := c) (hl := hl) hab hb hY hL h215 (show i < 25 by omega) u with ⟨h, _⟩ | ⟨_, v, h⟩
      · exact absurd h (j3 i hi')
      · exact ⟨v, h, trivial⟩) (.float 0) trivial
    obtain ⟨u, ek, _⟩ := key
    have ek' : mj_den mj_P E d 181 5 [.ref 205, .int (nI a), .int (nI b), .int (-1), .int 0, .float 0] [] (mj_hw w c hi hl) = mj_den mj_P E d 181 5 [.ref 205, .int (nI a), .int (nI b), .int (nI j - 1), .int (nI (rO j - 1)), u] [] (mj_hw w c hi hl) := by rw [z1]; exact ek
    rcases s_rword (E := E) (d := d) (w := w) (c := c) (hl := hl) hab hb hY hL h215 j1 u with ⟨_, h⟩ | ⟨h, _⟩
    · exact ⟨nI j, by rw [xg181, g181_0, ek', h], Or.inl ⟨j, j1, rfl, j2⟩⟩
    · exact absurd j2 h
end MJZ3
