section MJ45c
variable {E : mj_E} {d w c : Nat} {hi : mj_HI} {hl : Nat → Nat → Int64}
theorem r83_166 {r s : Nat} : mj_den mj_P E d 83 166 [.ref r, .ref s] [] (mj_hw w c hi hl) = some (none, mj_hw w c hi hl) := by
  rw [mj_den_eq, f83_166]
  exact zt_return
theorem s_crow2 {r s i n : Nat} (hr : mj_Rm w c r) (hs : mj_Rm w c s) (hi' : i < 10) (hn : n = (if i < 7 then 10 else 12)) (g : mj_HI) : ∃ g', mj_dc mj_P E (d + 2) 149 [.ref (s + 1 + i), .ref (r + 1 + i)] (mj_hw w c g hl) = some (none, mj_hw w c g' hl) ∧ (∀ k, k < n → g' (r + 1 + i) k = g (s + 1 + i) k) ∧ (∀ a k, a ≠ r + 1 + i → g' a k = g a k) := by
  refine ⟨_, s_crow (n := n) (by rw [hn]; exact (hs.2 i hi').2) (by rw [hn]; exact (hr.2 i hi').2) (by rw [hn]; split <;> omega), fun k hk => ?_, fun a k ha => ?_⟩
  · rw [mj_ur_eq, if_pos hk]
  · rw [mj_ur_row ha]
theorem r83_00 {r s : Nat} (hr : mj_Rm w c r) (hs : mj_Rm w c s) (hd : r + 10 < s ∨ s + 10 < r) : ∃ g, mj_den mj_P E d 83 0 [.ref r, .ref s] [] (mj_hw w c hi hl) = mj_bv (mj_dc mj_P E d 149 [.ref (s + 1 + 0), .ref (r + 1 + 0)] (mj_hw w c g hl)) (fun h1 => mj_den mj_P E d 83 67 [.ref r, .ref s] [] h1) ∧ (∀ k, k < 7 → g r k = hi s k) ∧ (∀ a k, a ≠ r → g a k = hi a k) := by
  refine ⟨_, r83_0 hr hs hd, fun k hk => ?_, fun a k ha => ?_⟩
  · have : k = 0 ∨ k = 1 ∨ k = 2 ∨ k = 3 ∨ k = 4 ∨ k = 5 ∨ k = 6 := by omega
    rcases this with rfl | rfl | rfl | rfl | rfl | rfl | rfl <;> simp (disch := omega) only [mj_u_pt, mj_u_eq]
  · simp (disch := omega) only [mj_u_pt]
theorem s_rcopy {r s : Nat} (hr : mj_Rm w c r) (hs : mj_Rm w c s) (hd : r + 10 < s ∨ s + 10 < r) : ∃ hi', mj_dc mj_P E (d + 3) 83 [.ref r, .ref s] (mj_hw w c hi hl) = some (none, mj_hw w c hi' hl) ∧ (∀ j k, j < 11 → k < iv_wl (1 + j) → hi' (r + j) k = hi (s + j) k) ∧ (∀ a k, (a < r ∨ r + 10 < a) → hi' a k = hi a k) := by
  obtain ⟨g0, e0, v0, f0⟩ := r83_00 (E := E) (d := d + 2) (hi := hi) (hl := hl) hr hs hd
  obtain ⟨g1, e1, v1, f1⟩ := s_crow2 (E := E) (d := d) (hl := hl) hr hs (i := 0) (n := 10) (by omega) rfl g0
  obtain ⟨g2, e2, v2, f2⟩ := s_crow2 (E := E) (d := d) (hl := hl) hr hs (i := 1) (n := 10) (by omega) rfl g1
  obtain ⟨g3, e3, v3, f3⟩ := s_crow2 (E := E) (d := d) (hl := hl) hr hs (i := 2) (n := 10) (by omega) rfl g2
  obtain ⟨g4, e4, v4, f4⟩ := s_crow2 (E := E) (d := d) (hl := hl) hr hs (i := 3) (n := 10) (by omega) rfl g3
  obtain ⟨g5, e5, v5, f5⟩ := s_crow2 (E := E) (d := d) (hl := hl) hr hs (i := 4) (n := 10) (by omega) rfl g4
  obtain ⟨g6, e6, v6, f6⟩ := s_crow2 (E := E) (d := d) (hl := hl) hr hs (i := 5) (n := 10) (by omega) rfl g5
  obtain ⟨g7, e7, v7, f7⟩ := s_crow2 (E := E) (d := d) (hl := hl) hr hs (i := 6) (n := 10) (by omega) rfl g6
  obtain ⟨g8, e8, v8, f8⟩ := s_crow2 (E := E) (d := d) (hl := hl) hr hs (i := 7) (n := 12) (by omega) rfl g7
  obtain ⟨g9, e9, v9, f9⟩ := s_crow2 (E := E) (d := d) (hl := hl) hr hs (i := 8) (n := 12) (by omega) rfl g8
  obtain ⟨g10, e10, v10, f10⟩ := s_crow2 (E := E) (d := d) (hl := hl) hr hs (i := 9) (n := 12) (by omega) rfl g9
  refine ⟨g10, ?_, ?_, ?_⟩
  · refine (mj_dc_eq mj_P E (d + 2) 83 [.ref r, .ref s] _ (Nat.le_of_ble_eq_true rfl)).trans ?_
    show mj_den mj_P E (d + 2) 83 0 [.ref r, .ref s] [] (mj_hw w c hi hl) = _
    rw [e0, e1, mj_bv_some, r83_67 hr hs, e2, mj_bv_some, r83_78 hr hs, e3, mj_bv_some, r83_89 hr hs, e4, mj_bv_some, r83_100 hr hs, e5, mj_bv_some, r83_111 hr hs, e6, mj_bv_some, r83_122 hr hs, e7, mj_bv_some, r83_133 hr hs, e8, mj_bv_some, r83_144 hr hs, e9, mj_bv_some, r83_155 hr hs, e10, mj_bv_some, r83_166]
  · intro j k hj hk
    have : j = 0 ∨ j = 1 ∨ j = 2 ∨ j = 3 ∨ j = 4 ∨ j = 5 ∨ j = 6 ∨ j = 7 ∨ j = 8 ∨ j = 9 ∨ j = 10 := by omega
    rcases this with rfl | rfl | rfl | rfl | rfl | rfl | rfl | rfl | rfl | rfl | rfl
    · rw [Nat.add_zero, Nat.add_zero, f10 _ _ (by omega), f9 _ _ (by omega), f8 _ _ (by omega), f7 _ _ (by omega), f6 _ _ (by omega), f5 _ _ (by omega), f4 _ _ (by omega), f3 _ _ (by omega), f2 _ _ (by omega), f1 _ _ (by omega)]; exact v0 k hk
    · have hk2 : k < 10 := hk
      have h1 := v1 k hk2
      rw [show r + 1 + 0 = r + 1 by omega, show s + 1 + 0 = s + 1 by omega] at h1
      rw [f10 _ _ (by omega), f9 _ _ (by omega), f8 _ _ (by omega), f7 _ _ (by omega), f6 _ _ (by omega), f5 _ _ (by omega), f4 _ _ (by omega), f3 _ _ (by omega), f2 _ _ (by omega), h1, f0 _ _ (by omega)]
    · have hk2 : k < 10 := hk
      have h1 := v2 k hk2
      rw [show r + 1 + 1 = r + 2 by omega, show s + 1 + 1 = s + 2 by omega] at h1
      rw [f10 _ _ (by omega), f9 _ _ (by omega), f8 _ _ (by omega), f7 _ _ (by omega), f6 _ _ (by omega), f5 _ _ (by omega), f4 _ _ (by omega), f3 _ _ (by omega), h1, f1 _ _ (by omega), f0 _ _ (by omega)]
    · have hk2 : k < 10 := hk
      have h1 := v3 k hk2
      rw [show r + 1 + 2 = r + 3 by omega, show s + 1 + 2 = s + 3 by omega] at h1
      rw [f10 _ _ (by omega), f9 _ _ (by omega), f8 _ _ (by omega), f7 _ _ (by omega), f6 _ _ (by omega), f5 _ _ (by omega), f4 _ _ (by omega), h1, f2 _ _ (by omega), f1 _ _ (by omega), f0 _ _ (by omega)]
    · have hk2 : k < 10 := hk
      have h1 := v4 k hk2
      rw [show r + 1 + 3 = r + 4 by omega, show s + 1 + 3 = s + 4 by omega] at h1
      rw [f10 _ _ (by omega), f9 _ _ (by omega), f8 _ _ (by omega), f7 _ _ (by omega), f6 _ _ (by omega), f5 _ _ (by omega), h1, f3 _ _ (by omega), f2 _ _ (by omega), f1 _ _ (by omega), f0 _ _ (by omega)]
    · have hk2 : k < 10 := hk
      have h1 := v5 k hk2
      rw [show r + 1 + 4 = r + 5 by omega, show s + 1 + 4 = s + 5 by omega] at h1
      rw [f10 _ _ (by omega), f9 _ _ (by omega), f8 _ _ (by omega), f7 _ _ (by omega), f6 _ _ (by omega), h1, f4 _ _ (by omega), f3 _ _ (by omega), f2 _ _ (by omega), f1 _ _ (by omega), f0 _ _ (by omega)]
    · have hk2 : k < 10 := hk
      have h1 := v6 k hk2
      rw [show r + 1 + 5 = r + 6 by omega, show s + 1 + 5 = s + 6 by omega] at h1
      rw [f10 _ _ (by omega), f9 _ _ (by omega), f8 _ _ (by omega), f7 _ _ (by omega), h1, f5 _ _ (by omega), f4 _ _ (by omega), f3 _ _ (by omega), f2 _ _ (by omega), f1 _ _ (by omega), f0 _ _ (by omega)]
    · have hk2 : k < 10 := hk
      have h1 := v7 k hk2
      rw [show r + 1 + 6 = r + 7 by omega, show s + 1 + 6 = s + 7 by omega] at h1
      rw [f10 _ _ (by omega), f9 _ _ (by omega), f8 _ _ (by omega), h1, f6 _ _ (by omega), f5 _ _ (by omega), f4 _ _ (by omega), f3 _ _ (by omega), f2 _ _ (by omega), f1 _ _ (by omega), f0 _ _ (by omega)]
    · have hk2 : k < 12 := hk
      have h1 := v8 k hk2
      rw [show r + 1 + 7 = r + 8 by omega, show s + 1 + 7 = s + 8 by omega] at h1
      rw [f10 _ _ (by omega), f9 _ _ (by omega), h1, f7 _ _ (by omega), f6 _ _ (by omega), f5 _ _ (by omega), f4 _ _ (by omega), f3 _ _ (by omega), f2 _ _ (by omega), f1 _ _ (by omega), f0 _ _ (by omega)]
    · have hk2 : k < 12 := hk
      have h1 := v9 k hk2
      rw [show r + 1 + 8 = r + 9 by omega, show s + 1 + 8 = s + 9 by omega] at h1
      rw [f10 _ _ (by omega), h1, f8 _ _ (by omega), f7 _ _ (by omega), f6 _ _ (by omega), f5 _ _ (by omega), f4 _ _ (by omega), f3 _ _ (by omega), f2 _ _ (by omega), f1 _ _ (by omega), f0 _ _ (by omega)]
    · have hk2 : k < 12 := hk
      have h1 := v10 k hk2
      rw [show r + 1 + 9 = r + 10 by omega, show s + 1 + 9 = s + 10 by omega] at h1
      rw [h1, f9 _ _ (by omega), f8 _ _ (by omega), f7 _ _ (by omega), f6 _ _ (by omega), f5 _ _ (by omega), f4 _ _ (by omega), f3 _ _ (by omega), f2 _ _ (by omega), f1 _ _ (by omega), f0 _ _ (by omega)]
  · intro a k ha
    rw [f10 _ _ (by omega), f9 _ _ (by omega), f8 _ _ (by omega), f7 _ _ (by omega), f6 _ _ (by omega), f5 _ _ (by omega), f4 _ _ (by omega), f3 _ _ (by omega), f2 _ _ (by omega), f1 _ _ (by omega), f0 _ _ (by omega)]
end MJ45c
