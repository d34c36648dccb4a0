/-! the invariant at the start -/
theorem st_hM : mj_hM = mj_hM0 := by
  have h1 := mj_hM_den mj_E0
  have hr := mj_hM0_run
  have h2 : mj_den mj_P mj_E0 999 151 0 [.ref 205] [] (mj_new 12 67 mj_hX) = some (none, mj_hM0) := by
    rw [show mj_hX = mj_hX0 from (Classical.choose_spec mj_ex_hX).2.2]
    unfold mj_hM0
    generalize hq : mj_run mj_P mj_E0 1000 999 151 0 [.ref 205] [] (mj_new 12 67 mj_hX0) = q at hr
    cases q with
    | none => cases hr
    | some z =>
      obtain ⟨v, h2⟩ := z
      have hv : v = none := by simpa using hr
      subst hv
      exact mj_den_iff.mpr ⟨1000, mj_run_E 1000 _ _ _ _ _ _ _ hq⟩
  rw [h1] at h2
  exact (Prod.mk.inj (Option.some.inj h2)).2
theorem st_z2 : ∀ k, k < 7 → mj_hM.1 2 k = 0 := by rw [st_hM]; decide +kernel
theorem st_z3 : ∀ k, k < 10 → mj_hM.1 3 k = 0 := by rw [st_hM]; decide +kernel
theorem st_z4 : ∀ k, k < 10 → mj_hM.1 4 k = 0 := by rw [st_hM]; decide +kernel
theorem st_z5 : ∀ k, k < 10 → mj_hM.1 5 k = 0 := by rw [st_hM]; decide +kernel
theorem st_z6 : ∀ k, k < 10 → mj_hM.1 6 k = 0 := by rw [st_hM]; decide +kernel
theorem st_z7 : ∀ k, k < 10 → mj_hM.1 7 k = 0 := by rw [st_hM]; decide +kernel
theorem st_z8 : ∀ k, k < 10 → mj_hM.1 8 k = 0 := by rw [st_hM]; decide +kernel
theorem st_z9 : ∀ k, k < 10 → mj_hM.1 9 k = 0 := by rw [st_hM]; decide +kernel
theorem st_z10 : ∀ k, k < 12 → mj_hM.1 10 k = 0 := by rw [st_hM]; decide +kernel
theorem st_z11 : ∀ k, k < 12 → mj_hM.1 11 k = 0 := by rw [st_hM]; decide +kernel
theorem st_z12 : ∀ k, k < 12 → mj_hM.1 12 k = 0 := by rw [st_hM]; decide +kernel
theorem st_z13 : ∀ k, k < 1 → mj_hM.1 13 k = 0 := by rw [st_hM]; decide +kernel
theorem st_z22 : ∀ k, k < 1 → mj_hM.1 22 k = 0 := by rw [st_hM]; decide +kernel
theorem st_z26 : ∀ k, k < 1 → mj_hM.1 26 k = 0 := by rw [st_hM]; decide +kernel
theorem st_z30 : ∀ k, k < 1 → mj_hM.1 30 k = 0 := by rw [st_hM]; decide +kernel
theorem st_z34 : ∀ k, k < 10 → mj_hM.1 34 k = 0 := by rw [st_hM]; decide +kernel
theorem st_z38 : ∀ k, k < 8 → mj_hM.1 38 k = 0 := by rw [st_hM]; decide +kernel
theorem st_z91 : ∀ k, k < 2 → mj_hM.1 91 k = 0 := by rw [st_hM]; decide +kernel
theorem st_z206 : ∀ k, k < 57 → mj_hM.1 206 k = 0 := by rw [st_hM]; decide +kernel
theorem st_z209 : ∀ k, k < 10 → mj_hM.1 209 k = 0 := by rw [st_hM]; decide +kernel
theorem st_z210 : ∀ k, k < 10 → mj_hM.1 210 k = 0 := by rw [st_hM]; decide +kernel
theorem st_z211 : ∀ k, k < 12 → mj_hM.1 211 k = 0 := by rw [st_hM]; decide +kernel
theorem st_z212 : ∀ k, k < 12 → mj_hM.1 212 k = 0 := by rw [st_hM]; decide +kernel
theorem st_z216 : ∀ k, k < 1 → mj_hM.1 216 k = 0 := by rw [st_hM]; decide +kernel
theorem st_z225 : ∀ k, k < 10 → mj_hM.1 225 k = 0 := by rw [st_hM]; decide +kernel
theorem st_z230 : ∀ k, k < 100 → mj_hM.1 230 k = 0 := by rw [st_hM]; decide +kernel
theorem st_z233 : ∀ k, k < 8 → mj_hM.1 233 k = 0 := by rw [st_hM]; decide +kernel
theorem st_z42 : ∀ k, k < 150 → mj_hM.1 42 k = 0 := by rw [st_hM]; decide +kernel
theorem st_z43 : ∀ k, k < 150 → mj_hM.1 43 k = 0 := by rw [st_hM]; decide +kernel
theorem st_z44 : ∀ k, k < 150 → mj_hM.1 44 k = 0 := by rw [st_hM]; decide +kernel
theorem st_z45 : ∀ k, k < 150 → mj_hM.1 45 k = 0 := by rw [st_hM]; decide +kernel
theorem st_z213 : ∀ k, k < 600 → mj_hM.1 213 k = 0 := by rw [st_hM]; decide +kernel
theorem st_f : ∀ k, k ∈ [6, 7, 36, 38, 40, 48, 51, 54, 58, 3, 5, 14, 34, 64] → mj_hM.1 205 k = 0 := by rw [st_hM]; decide +kernel
theorem st_g : mj_hM.1 0 2 = 0 ∧ mj_hM.1 159 0 = 0 ∧ mj_hM.1 159 1 = 0 ∧ mj_hM.1 159 2 = -1 ∧ mj_hM.1 205 35 = -1 := by rw [st_hM]; decide +kernel
theorem st_n : ∀ k, k < 13 → mj_hM.1 203 k = iv_nim.getD k 0 := by rw [st_hM]; decide +kernel
theorem st_w : ∀ k, k < 132 → mj_hM.1 215 k = iv_wds.getD k 0 := by rw [st_hM]; decide +kernel
