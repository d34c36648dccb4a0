def mj_IL : List (Nat × Nat × Int32) := mj_IL0 ++ mj_IL1 ++ mj_IL2 ++ mj_IL3 ++ mj_IL4 ++ mj_IL5
theorem mj_hM0_ints : ∀ q ∈ mj_IL, mj_hM0.1 q.1 q.2.1 = q.2.2 := by
  intro q hq
  unfold mj_IL at hq
  simp only [List.mem_append] at hq
  rcases hq with ((((h | h) | h) | h) | h) | h
  · exact mj_hM0_ints0 q h
  · exact mj_hM0_ints1 q h
  · exact mj_hM0_ints2 q h
  · exact mj_hM0_ints3 q h
  · exact mj_hM0_ints4 q h
  · exact mj_hM0_ints5 q h
/-- they are what they are: kept shut from here on -/
theorem mj_ex_hX : ∃ hX : mj_H, (∀ E, mj_den mj_P E 999 106 0 [.ref 0] [] (mj_new 11 10 mj_h00) = some (none, hX)) ∧ hX.2.2.2.length = 205 ∧ hX = mj_hX0 := by
  refine ⟨mj_hX0, fun E => ?_, mj_hX0_len, rfl⟩
  have hr := mj_hX0_run
  unfold mj_hX0
  generalize hq : mj_run mj_P mj_E0 1000 999 106 0 [.ref 0] [] (mj_new 11 10 mj_h00) = q at hr
  cases q with
  | none => cases hr
  | some z =>
    obtain ⟨v, h2⟩ := z
    have hv : v = none := by simpa using hr
    subst hv
    exact mj_den_iff.mpr ⟨1000, mj_run_E 1000 _ _ _ _ _ _ _ hq⟩
noncomputable def mj_hX : mj_H := Classical.choose mj_ex_hX
theorem mj_hX_den (E : mj_E) : mj_den mj_P E 999 106 0 [.ref 0] [] (mj_new 11 10 mj_h00) = some (none, mj_hX) := (Classical.choose_spec mj_ex_hX).1 E
theorem mj_hX_len : mj_hX.2.2.2.length = 205 := (Classical.choose_spec mj_ex_hX).2.1
theorem mj_ex_hM : ∃ hM : mj_H, (∀ E, mj_den mj_P E 999 151 0 [.ref 205] [] (mj_new 12 67 mj_hX) = some (none, hM)) ∧ hM.2.2.2 = mj_CL0 ∧ (∀ q ∈ mj_RL, hM.2.2.1 q.1 q.2.1 = q.2.2) ∧ (∀ q ∈ mj_IL, hM.1 q.1 q.2.1 = q.2.2) := by
  refine ⟨mj_hM0, fun E => ?_, mj_hM0_cells, mj_hM0_refs, mj_hM0_ints⟩
  rw [show mj_hX = mj_hX0 from (Classical.choose_spec mj_ex_hX).2.2]
  have hr := mj_hM0_run
  unfold mj_hM0
  generalize hq : mj_run mj_P mj_E0 1000 999 151 0 [.ref 205] [] (mj_new 12 67 mj_hX0) = q at hr
  cases q with
  | none => cases hr
  | some z =>
    obtain ⟨v, h2⟩ := z
    have hv : v = none := by simpa using hr
    subst hv
    exact mj_den_iff.mpr ⟨1000, mj_run_E 1000 _ _ _ _ _ _ _ hq⟩
noncomputable def mj_hM : mj_H := Classical.choose mj_ex_hM
theorem mj_hM_den (E : mj_E) : mj_den mj_P E 999 151 0 [.ref 205] [] (mj_new 12 67 mj_hX) = some (none, mj_hM) := (Classical.choose_spec mj_ex_hM).1 E
theorem mj_hM_cells : mj_hM.2.2.2 = mj_CL0 := (Classical.choose_spec mj_ex_hM).2.1
theorem mj_RL_at {a k : Nat} {v : Value} (h : (a, k, v) ∈ mj_RL) : mj_hM.2.2.1 a k = v := (Classical.choose_spec mj_ex_hM).2.2.1 (a, k, v) h
theorem mj_IL_at {a k : Nat} {v : Int32} (h : (a, k, v) ∈ mj_IL) : mj_hM.1 a k = v := (Classical.choose_spec mj_ex_hM).2.2.2 (a, k, v) h
