/-! the invariant holds at the start -/
theorem st_I : iv_I mj_hM.1 mj_hM.1 := by
  have f : ∀ k, k ∈ [6, 7, 36, 38, 40, 48, 51, 54, 58, 3, 5, 14, 34, 64] → mj_hM.1 205 k = 0 := st_f
  obtain ⟨g1, g2, g3, g4, g5⟩ := st_g
  refine iv_I_un.mpr ⟨0, 0, ⟨by omega, by omega, f 6 (by decide), f 7 (by decide), ?_, fun k hk => absurd hk (by omega), ?_, ?_, ?_, ?_, ?_, ?_, ?_, ?_, ?_, ?_⟩, ?_, Or.inl ⟨g1, f 64 (by decide)⟩, ?_, ?_⟩
  · rw [iv_wC1]
    refine iv_X_iff.mpr ⟨⟨st_z2 0 (by omega), st_z2 1 (by omega), ?_, ?_, ?_, ?_, ?_⟩, ⟨0, by omega, st_z206 2 (by omega)⟩, fun d hd => ⟨?_, ?_, ?_, ?_, ?_, ?_⟩, fun d hd => absurd hd (by omega), fun k hk => ⟨?_, ?_⟩, fun d hd => absurd hd (by omega), fun d hd => absurd hd (by omega)⟩
    · rw [st_z2 2 (by omega), st_z206 3 (by omega)]
    · rw [st_z2 3 (by omega), st_z206 0 (by omega)]
    · rw [st_z2 4 (by omega), st_z206 4 (by omega)]
    · rw [st_z2 5 (by omega), st_z206 1 (by omega)]
    · rw [st_z2 6 (by omega), st_z206 2 (by omega)]
    · rw [st_z3 d hd, st_z206 _ (by omega)]
    · rw [st_z4 d hd, st_z209 _ (by omega)]
    · rw [st_z5 d hd, st_z206 _ (by omega)]
    · rw [st_z6 d hd, st_z210 _ (by omega)]
    · rw [st_z7 d hd, st_z206 _ (by omega)]
    · rw [st_z8 d hd, st_z206 _ (by omega)]
    · rw [st_z10 k hk, st_z211 _ (by omega)]
    · rw [st_z11 k hk, st_z212 _ (by omega)]
  · exact ⟨0, 0, by omega, by omega, by unfold iv_ph; simp [iv_cnt], st_z13 0 (by omega), st_z216 0 (by omega), fun i hi => absurd hi (by omega), fun i hi => absurd hi (by omega)⟩
  · exact ⟨0, by omega, st_z22 0 (by omega), f 36 (by decide), fun i hi => absurd hi (by omega)⟩
  · exact ⟨0, fun _ => 0, fun _ => 0, by omega, st_z26 0 (by omega), f 38 (by decide), fun i hi => absurd hi (by omega), fun d hd => st_z225 d hd⟩
  · exact ⟨0, by omega, st_z30 0 (by omega), f 40 (by decide), fun i hi => absurd hi (by omega)⟩
  · exact ⟨0, fun _ => 0, fun _ => 0, by omega, st_z34 0 (by omega), f 48 (by decide), fun i hi => absurd hi (by omega), fun x y hx hy => st_z230 _ (by omega)⟩
  · exact ⟨0, by omega, st_z34 3 (by omega), f 51 (by decide), fun i hi => absurd hi (by omega)⟩
  · intro i hi; exact ⟨0, by omega, st_z38 i hi, st_z233 i hi⟩
  · exact ⟨0, by omega, st_z34 6 (by omega), f 54 (by decide), fun i hi => absurd hi (by omega)⟩
  · exact ⟨0, by omega, st_z34 9 (by omega), f 58 (by decide), fun i hi => absurd hi (by omega)⟩
  · intro i hi
    refine ⟨?_, ?_, ?_, ?_⟩
    · show mj_hM.1 42 i = _; rw [st_z42 i hi, st_z213 _ (by omega)]
    · show mj_hM.1 43 i = _; rw [st_z43 i hi, st_z213 _ (by omega)]
    · show mj_hM.1 44 i = _; rw [st_z44 i hi, st_z213 _ (by omega)]
    · show mj_hM.1 45 i = _; rw [st_z45 i hi, st_z213 _ (by omega)]
  · exact ⟨0, 0, by omega, by omega, st_z91 0 (by omega), f 3 (by decide), st_z91 1 (by omega), fun j hj => absurd hj (by omega)⟩
  · exact ⟨0, by omega, g2, f 14 (by decide), by rw [g3, f 34 (by decide)], by rw [g4, g5], fun i hi => absurd hi (by omega)⟩
  · exact ⟨f 5 (by decide), st_n, st_w⟩
