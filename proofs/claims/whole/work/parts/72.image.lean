def wi_src (i : Nat) : Nat × Nat :=
  if i < 57 then (206, i) else if i < 66 then (205, [6, 7, 36, 38, 40, 48, 51, 54, 58].getD (i - 57) 0) else if i < 96 then ([209, 210, 225].getD ((i - 66) % 3) 0, (i - 66) / 3) else if i < 132 then ([211, 212, 237].getD ((i - 96) % 3) 0, (i - 96) / 3) else if i < 232 then (230, i - 132) else if i < 238 then (232, i - 232) else if i < 252 then ([234, 235].getD ((i - 238) % 2) 0, (i - 238) / 2) else if i < 260 then (233, i - 252) else if i < 292 then (224, i - 260) else if i < 340 then (226, i - 292) else if i < 940 then (213, i - 340) else if i < 941 then (216, 0) else if i < 1005 then ([217, 218, 219, 220].getD ((i - 941) % 4) 0, (i - 941) / 4) else ([221, 222].getD ((i - 1005) % 2) 0, (i - 1005) / 2)
def wi_pos (a k : Nat) : Nat := match a with
  | 206 => k | 209 => 66 + 3 * k | 210 => 67 + 3 * k | 225 => 68 + 3 * k | 211 => 96 + 3 * k | 212 => 97 + 3 * k | 237 => 98 + 3 * k | 230 => 132 + k | 232 => 232 + k | 234 => 238 + 2 * k | 235 => 239 + 2 * k | 233 => 252 + k | 224 => 260 + k | 226 => 292 + k | 213 => 340 + k | 216 => 940 | 217 => 941 + 4 * k | 218 => 942 + 4 * k | 219 => 943 + 4 * k | 220 => 944 + 4 * k | 221 => 1005 + 2 * k | 222 => 1006 + 2 * k
  | _ => if k = 6 then 57 else if k = 7 then 58 else if k = 36 then 59 else if k = 38 then 60 else if k = 40 then 61 else if k = 48 then 62 else if k = 51 then 63 else if k = 54 then 64 else 65
theorem wi_dec (m : mj_HI) (a k : Nat) : iv_dec m a k = m 241 (wi_pos a k) := rfl
theorem wi_pos_src : ∀ i, i < 1805 → (wi_pos (wi_src i).1 (wi_src i).2 = i ∧ iv_pm (wi_src i).1 (wi_src i).2 = true) := by decide +kernel
theorem wi_src_pos : ∀ a, a < 37 → ∀ k, k < 600 → iv_pm (205 + a) k = true → wi_src (wi_pos (205 + a) k) = (205 + a, k) ∧ wi_pos (205 + a) k < 1805 := by decide +kernel
theorem wi_sp {a k : Nat} (h : iv_pm a k = true) : wi_src (wi_pos a k) = (a, k) ∧ wi_pos a k < 1805 := by
  have h1 := iv_pm_r h
  have h2 : k < 600 := by
    unfold iv_pm at h
    have p := of_decide_eq_true h
    rcases p with p | p
    · unfold iv_ml at p
      split at p <;> omega
    · omega
  have := wi_src_pos (a - 205) (by omega) k h2 (by rw [show 205 + (a - 205) = a by omega]; exact h)
  rw [show 205 + (a - 205) = a by omega] at this
  exact this
/-- T cells done, from h0 on: kept (s) or taken -/
def wi_R (s : Bool) (T : Nat) (h0 h : mj_HI) : Prop := h 205 65 = nI T ∧ h 205 63 = (if s = true then 1 else 0) ∧ (∀ i, i < T → if s = true then h 241 i = h0 (wi_src i).1 (wi_src i).2 else h (wi_src i).1 (wi_src i).2 = h0 241 i) ∧ (∀ a k, ¬ (a = 205 ∧ k = 65) → (if s = true then a ≠ 241 else ∀ i, i < T → wi_src i ≠ (a, k)) → h a k = h0 a k)
theorem wi_src_ne {i : Nat} (h : i < 1805) : (wi_src i).1 ≠ 241 ∧ ¬ ((wi_src i).1 = 205 ∧ ((wi_src i).2 = 65 ∨ (wi_src i).2 = 63)) := by
  have := (wi_pos_src i h).2
  refine ⟨fun z => ?_, fun z => ?_⟩
  · rw [z] at this
    unfold iv_pm iv_ml at this
    simp at this
  · obtain ⟨z1, z2 | z2⟩ := z
    all_goals
      rw [z1, z2] at this
      unfold iv_pm iv_ml at this
      simp at this
theorem s_swap {E : mj_E} {d w c : Nat} {hl : Nat → Nat → Int64} {s : Bool} {T a k : Nat} {h0 h : mj_HI} (hT : T < 1805) (hs : wi_src T = (a, k)) (q : wi_R s T h0 h) : ∃ x h1, (∀ v, v = h a k → mj_dc mj_P E (d + 1) 285 [.ref 205, .int v] (mj_hw w c h hl) = some (some (.int x), mj_hw w c h1 hl)) ∧ (∀ b j, ¬ b = 241 → ¬ (b = 205 ∧ j = 65) → h1 b j = h b j) ∧ wi_R s (T + 1) h0 (mj_u h1 a k x) := by
  obtain ⟨q1, q2, q3, q4⟩ := q
  obtain ⟨n1, n2⟩ := wi_src_ne hT
  rw [hs] at n1 n2
  simp only at n1 n2
  have hsub : nI (T + 1) - (1 : Int32) = nI T := by rw [mj_nIp (by omega)]; congr 1
  cases s with
  | true =>
    simp only [if_true] at q2 q3 q4
    refine ⟨h a k, mj_u (mj_u h 205 65 (nI (T + 1))) 241 T (h a k), fun v hv => ?_, fun b j hb hj => ?_, ?_, ?_, fun i hi => ?_, fun b j hb hj => ?_⟩
    · subst hv
      simp (disch := omega) only [q285_0, q285_29, e285, ↓reduceIte, Bool.false_eq_true, eq_self, mj_10, mj_01, mj_n10, mj_0n1, mj_1n1, mj_n11, mj_bi_some, mj_bv_some, mj_bj_some, mj_br_some, mj_r0, mj_r1, mj_q0, mj_q1, mj_b01, mj_q2, if_true, if_false, mj_it, mj_if, true_and, and_true, false_and, and_false, not_true_eq_false, not_false_eq_true, true_or, or_true, false_or, or_false, mj_nIle, mj_nIlt, mj_nIeq, mj_nI0, mj_nIc, mj_nIadd, mj_nIs, mj_ez, mj_ze, mj_eo, mj_ltz, mj_lez, mj_zlt, mj_olt, mj_lto, mj_leo, mj_ole, mj_nIn, mj_nnI, nl_2, nl_3, nl_4, nl_5, nl_6, nl_7, nl_8, nl_9, nl_10, nl_11, nl_12, nl_13, nl_14, nl_15, nl_16, nl_17, nl_18, nl_19, nl_20, nl_21, nl_22, nl_23, nl_24, nl_25, nl_26, nl_27, nl_28, nl_29, nl_30, nl_32, nl_33, nl_34, nl_35, nl_36, nl_37, nl_38, nl_39, nl_40, nl_41, nl_42, nl_43, nl_44, nl_45, nl_46, nl_47, nl_48, nl_49, nl_50, nl_51, nl_52, nl_53, nl_54, nl_55, nl_56, nl_57, nl_58, nl_59, nl_60, nl_61, nl_62, nl_64, nl_65, nl_66, nl_67, nl_68, nl_69, nl_92, nl_97, nl_99, nl_100, nl_122, nl_127, nl_128, nl_131, nl_132, nl_150, nl_200, nl_255, nl_256, nl_300, nl_342, nl_380, nl_381, nl_400, nl_401, nl_420, nl_500, nl_600, nl_800, nl_999, nl_1000, nl_1023, nl_1024, nl_1200, nl_2048, nl_2100, nl_4096, nl_9999, nl_10000, nl_10240, nl_999999, nl_1000000, if_pos, if_neg, q1, q2, hsub, mj_u_eq, mj_u_pt]
    · simp (disch := omega) only [mj_u_pt]
    · simp (disch := omega) only [mj_u_pt, mj_u_eq]
    · simp (disch := omega) only [mj_u_pt, q2, if_true]
    · simp only [if_true]
      by_cases hi' : i = T
      · subst hi'
        rw [hs]
        simp (disch := omega) only [mj_u_pt, mj_u_eq]
        exact q4 a k (by omega) n1
      · simp (disch := omega) only [mj_u_pt]
        exact q3 i (by omega)
    · simp only [if_true] at hj
      by_cases hbj : b = a ∧ j = k
      · obtain ⟨rfl, rfl⟩ := hbj
        rw [mj_u_eq]; exact q4 _ _ hb hj
      · simp (disch := omega) only [mj_u_pt]
        exact q4 _ _ hb hj
  | false =>
    simp only [Bool.false_eq_true, if_false] at q2 q3 q4
    have h241 : ∀ i, h 241 i = h0 241 i := fun i => q4 241 i (by omega) (fun j hj z => (wi_src_ne (i := j) (by omega)).1 (by rw [z]))
    refine ⟨h 241 T, mj_u h 205 65 (nI (T + 1)), fun v hv => ?_, fun b j hb hj => ?_, ?_, ?_, fun i hi => ?_, fun b j hb hj => ?_⟩
    · simp (disch := omega) only [q285_0, q285_29, e285, ↓reduceIte, Bool.false_eq_true, eq_self, mj_10, mj_01, mj_n10, mj_0n1, mj_1n1, mj_n11, mj_bi_some, mj_bv_some, mj_bj_some, mj_br_some, mj_r0, mj_r1, mj_q0, mj_q1, mj_b01, mj_q2, if_true, if_false, mj_it, mj_if, true_and, and_true, false_and, and_false, not_true_eq_false, not_false_eq_true, true_or, or_true, false_or, or_false, mj_nIle, mj_nIlt, mj_nIeq, mj_nI0, mj_nIc, mj_nIadd, mj_nIs, mj_ez, mj_ze, mj_eo, mj_ltz, mj_lez, mj_zlt, mj_olt, mj_lto, mj_leo, mj_ole, mj_nIn, mj_nnI, nl_2, nl_3, nl_4, nl_5, nl_6, nl_7, nl_8, nl_9, nl_10, nl_11, nl_12, nl_13, nl_14, nl_15, nl_16, nl_17, nl_18, nl_19, nl_20, nl_21, nl_22, nl_23, nl_24, nl_25, nl_26, nl_27, nl_28, nl_29, nl_30, nl_32, nl_33, nl_34, nl_35, nl_36, nl_37, nl_38, nl_39, nl_40, nl_41, nl_42, nl_43, nl_44, nl_45, nl_46, nl_47, nl_48, nl_49, nl_50, nl_51, nl_52, nl_53, nl_54, nl_55, nl_56, nl_57, nl_58, nl_59, nl_60, nl_61, nl_62, nl_64, nl_65, nl_66, nl_67, nl_68, nl_69, nl_92, nl_97, nl_99, nl_100, nl_122, nl_127, nl_128, nl_131, nl_132, nl_150, nl_200, nl_255, nl_256, nl_300, nl_342, nl_380, nl_381, nl_400, nl_401, nl_420, nl_500, nl_600, nl_800, nl_999, nl_1000, nl_1023, nl_1024, nl_1200, nl_2048, nl_2100, nl_4096, nl_9999, nl_10000, nl_10240, nl_999999, nl_1000000, if_pos, if_neg, q1, q2, hsub, mj_u_eq, mj_u_pt]
    · simp (disch := omega) only [mj_u_pt]
    · simp (disch := omega) only [mj_u_pt, mj_u_eq]
    · simp (disch := omega) only [mj_u_pt, q2]
      rfl
    · simp only [Bool.false_eq_true, if_false]
      by_cases hi' : i = T
      · subst hi'
        rw [hs]
        simp only [mj_u_eq]
        exact h241 i
      · have hne : ¬ ((wi_src i).1 = a ∧ (wi_src i).2 = k) := fun z => hi' (by
          have e1 := (wi_pos_src i (by omega)).1
          have e2 := (wi_pos_src T hT).1
          rw [hs] at e2
          simp only at e2
          rw [z.1, z.2] at e1
          omega)
        have n3 := (wi_src_ne (i := i) (by omega)).2
        rw [mj_u_pt (by omega), mj_u_pt (by omega)]
        exact q3 i (by omega)
    · simp only [Bool.false_eq_true, if_false] at hj
      have hne : ¬ (b = a ∧ j = k) := fun z => hj T (by omega) (by rw [hs, z.1, z.2])
      simp (disch := omega) only [mj_u_pt]
      exact q4 _ _ hb (fun i hi => hj i (by omega))

theorem s_w287 {E : mj_E} {d w c : Nat} {hl : Nat → Nat → Int64} {s : Bool} {h0 h : mj_HI} (q : wi_R s 57 h0 h) : ∃ h', mj_dc mj_P E (d + 2) 287 [.ref 205] (mj_hw w c h hl) = some (none, mj_hw w c h' hl) ∧ wi_R s 66 h0 h' := by
  obtain ⟨x1, h1, e1, f1, q1⟩ := s_swap (E := E) (d := d) (w := w) (c := c) (hl := hl) (a := 205) (k := 6) (by omega) rfl q
  have e1 := e1 _ rfl
  obtain ⟨x2, h2, e2, f2, q2⟩ := s_swap (E := E) (d := d) (w := w) (c := c) (hl := hl) (a := 205) (k := 7) (by omega) rfl q1
  have e2 := e2 _ (mj_u_pt (by omega)).symm
  obtain ⟨x3, h3, e3, f3, q3⟩ := s_swap (E := E) (d := d) (w := w) (c := c) (hl := hl) (a := 205) (k := 36) (by omega) rfl q2
  have e3 := e3 _ (mj_u_pt (by omega)).symm
  obtain ⟨x4, h4, e4, f4, q4⟩ := s_swap (E := E) (d := d) (w := w) (c := c) (hl := hl) (a := 205) (k := 38) (by omega) rfl q3
  have e4 := e4 _ (mj_u_pt (by omega)).symm
  obtain ⟨x5, h5, e5, f5, q5⟩ := s_swap (E := E) (d := d) (w := w) (c := c) (hl := hl) (a := 205) (k := 40) (by omega) rfl q4
  have e5 := e5 _ (mj_u_pt (by omega)).symm
  obtain ⟨x6, h6, e6, f6, q6⟩ := s_swap (E := E) (d := d) (w := w) (c := c) (hl := hl) (a := 205) (k := 48) (by omega) rfl q5
  have e6 := e6 _ (mj_u_pt (by omega)).symm
  obtain ⟨x7, h7, e7, f7, q7⟩ := s_swap (E := E) (d := d) (w := w) (c := c) (hl := hl) (a := 205) (k := 51) (by omega) rfl q6
  have e7 := e7 _ (mj_u_pt (by omega)).symm
  obtain ⟨x8, h8, e8, f8, q8⟩ := s_swap (E := E) (d := d) (w := w) (c := c) (hl := hl) (a := 205) (k := 54) (by omega) rfl q7
  have e8 := e8 _ (mj_u_pt (by omega)).symm
  obtain ⟨x9, h9, e9, f9, q9⟩ := s_swap (E := E) (d := d) (w := w) (c := c) (hl := hl) (a := 205) (k := 58) (by omega) rfl q8
  have e9 := e9 _ (mj_u_pt (by omega)).symm
  refine ⟨_, ?_, q9⟩
  simp only [q287_0, q287_9, q287_21, q287_33, q287_45, q287_57, q287_69, q287_81, q287_93, q287_105, e287, mj_bi_some, e1, e2, e3, e4, e5, e6, e7, e8, e9]
theorem s_w288a {E : mj_E} {d w c : Nat} {hl : Nat → Nat → Int64} {s : Bool} {h0 h : mj_HI}  (q : wi_R s 66 h0 h) : ∃ h', mj_den mj_P E (d + 1) 288 2 [.ref 205, .int 0] [] (mj_hw w c h hl) = mj_den mj_P E (d + 1) 288 62 [.ref 205, .int (nI 10)] [] (mj_hw w c h' hl) ∧ wi_R s 96 h0 h' := by
  have key := lp_ex (fun k (g : mj_HI) => mj_den mj_P E (d + 1) 288 2 [.ref 205, .int (nI k)] [] (mj_hw w c g hl)) (fun k g => wi_R s (66 + 3 * k) h0 g) 10 (fun k g hk hg => ?_) h (by simpa using q)
  · obtain ⟨g, e, hg⟩ := key
    refine ⟨g, Eq.trans e ?_, hg⟩
    show mj_den mj_P E (d + 1) 288 2 [.ref 205, .int (nI 10)] [] (mj_hw w c g hl) = _
    rw [q288_2]
    simp (disch := omega) only [↓reduceIte, Bool.false_eq_true, eq_self, mj_10, mj_01, mj_n10, mj_0n1, mj_1n1, mj_n11, mj_bi_some, mj_bv_some, mj_bj_some, mj_br_some, mj_r0, mj_r1, mj_q0, mj_q1, mj_b01, mj_q2, if_true, if_false, mj_it, mj_if, true_and, and_true, false_and, and_false, not_true_eq_false, not_false_eq_true, true_or, or_true, false_or, or_false, mj_nIle, mj_nIlt, mj_nIeq, mj_nI0, mj_nIc, mj_nIadd, mj_nIs, mj_ez, mj_ze, mj_eo, mj_ltz, mj_lez, mj_zlt, mj_olt, mj_lto, mj_leo, mj_ole, mj_nIn, mj_nnI, nl_2, nl_3, nl_4, nl_5, nl_6, nl_7, nl_8, nl_9, nl_10, nl_11, nl_12, nl_13, nl_14, nl_15, nl_16, nl_17, nl_18, nl_19, nl_20, nl_21, nl_22, nl_23, nl_24, nl_25, nl_26, nl_27, nl_28, nl_29, nl_30, nl_32, nl_33, nl_34, nl_35, nl_36, nl_37, nl_38, nl_39, nl_40, nl_41, nl_42, nl_43, nl_44, nl_45, nl_46, nl_47, nl_48, nl_49, nl_50, nl_51, nl_52, nl_53, nl_54, nl_55, nl_56, nl_57, nl_58, nl_59, nl_60, nl_61, nl_62, nl_64, nl_65, nl_66, nl_67, nl_68, nl_69, nl_92, nl_97, nl_99, nl_100, nl_122, nl_127, nl_128, nl_131, nl_132, nl_150, nl_200, nl_255, nl_256, nl_300, nl_342, nl_380, nl_381, nl_400, nl_401, nl_420, nl_500, nl_600, nl_800, nl_999, nl_1000, nl_1023, nl_1024, nl_1200, nl_2048, nl_2100, nl_4096, nl_9999, nl_10000, nl_10240, nl_999999, nl_1000000, if_pos, if_neg]
  · have t0 : wi_src (66 + 3 * k) = (209, k) := by
      have := (wi_sp (a := 209) (k := k) (decide_eq_true (Or.inl (show k < iv_ml 209 by unfold iv_ml; omega)))).1
      unfold wi_pos at this
      simp only at this
      first | exact this | (rw [← this]; congr 1; omega)
    obtain ⟨x1, h1, e1, f1, q1⟩ := s_swap (E := E) (d := d) (w := w) (c := c) (hl := hl) (by omega) t0 hg
    have e1 := e1 _ rfl
    have t1 : wi_src (66 + 3 * k + 1) = (210, k) := by
      have := (wi_sp (a := 210) (k := k) (decide_eq_true (Or.inl (show k < iv_ml 210 by unfold iv_ml; omega)))).1
      unfold wi_pos at this
      simp only at this
      first | exact this | (rw [← this]; congr 1; omega)
    obtain ⟨x2, h2, e2, f2, q2⟩ := s_swap (E := E) (d := d) (w := w) (c := c) (hl := hl) (by omega) t1 q1
    have e2 := e2 _ (mj_u_pt (by omega)).symm
    have t2 : wi_src (66 + 3 * k + 1 + 1) = (225, k) := by
      have := (wi_sp (a := 225) (k := k) (decide_eq_true (Or.inl (show k < iv_ml 225 by unfold iv_ml; omega)))).1
      unfold wi_pos at this
      simp only at this
      first | exact this | (rw [← this]; congr 1; omega)
    obtain ⟨x3, h3, e3, f3, q3⟩ := s_swap (E := E) (d := d) (w := w) (c := c) (hl := hl) (by omega) t2 q2
    have e3 := e3 _ (mj_u_pt (by omega)).symm
    refine ⟨_, ?_, show wi_R s (66 + 3 * (k + 1)) h0 _ from (show 66 + 3 * k + 1 + 1 + 1 = 66 + 3 * (k + 1) by omega) ▸ q3⟩
    show mj_den mj_P E (d + 1) 288 2 [.ref 205, .int (nI k)] [] (mj_hw w c g hl) = _
    rw [q288_2]
    simp (disch := omega) only [↓reduceIte, Bool.false_eq_true, eq_self, mj_10, mj_01, mj_n10, mj_0n1, mj_1n1, mj_n11, mj_bi_some, mj_bv_some, mj_bj_some, mj_br_some, mj_r0, mj_r1, mj_q0, mj_q1, mj_b01, mj_q2, if_true, if_false, mj_it, mj_if, true_and, and_true, false_and, and_false, not_true_eq_false, not_false_eq_true, true_or, or_true, false_or, or_false, mj_nIle, mj_nIlt, mj_nIeq, mj_nI0, mj_nIc, mj_nIadd, mj_nIs, mj_ez, mj_ze, mj_eo, mj_ltz, mj_lez, mj_zlt, mj_olt, mj_lto, mj_leo, mj_ole, mj_nIn, mj_nnI, nl_2, nl_3, nl_4, nl_5, nl_6, nl_7, nl_8, nl_9, nl_10, nl_11, nl_12, nl_13, nl_14, nl_15, nl_16, nl_17, nl_18, nl_19, nl_20, nl_21, nl_22, nl_23, nl_24, nl_25, nl_26, nl_27, nl_28, nl_29, nl_30, nl_32, nl_33, nl_34, nl_35, nl_36, nl_37, nl_38, nl_39, nl_40, nl_41, nl_42, nl_43, nl_44, nl_45, nl_46, nl_47, nl_48, nl_49, nl_50, nl_51, nl_52, nl_53, nl_54, nl_55, nl_56, nl_57, nl_58, nl_59, nl_60, nl_61, nl_62, nl_64, nl_65, nl_66, nl_67, nl_68, nl_69, nl_92, nl_97, nl_99, nl_100, nl_122, nl_127, nl_128, nl_131, nl_132, nl_150, nl_200, nl_255, nl_256, nl_300, nl_342, nl_380, nl_381, nl_400, nl_401, nl_420, nl_500, nl_600, nl_800, nl_999, nl_1000, nl_1023, nl_1024, nl_1200, nl_2048, nl_2100, nl_4096, nl_9999, nl_10000, nl_10240, nl_999999, nl_1000000, if_pos, if_neg, q288_23, q288_39, q288_55, e1, e2, e3]
theorem s_w288b {E : mj_E} {d w c : Nat} {hl : Nat → Nat → Int64} {s : Bool} {h0 h : mj_HI}  (q : wi_R s 96 h0 h) : ∃ h', mj_den mj_P E (d + 1) 288 64 [.ref 205, .int 0] [] (mj_hw w c h hl) = mj_den mj_P E (d + 1) 288 124 [.ref 205, .int (nI 12)] [] (mj_hw w c h' hl) ∧ wi_R s 132 h0 h' := by
  have key := lp_ex (fun k (g : mj_HI) => mj_den mj_P E (d + 1) 288 64 [.ref 205, .int (nI k)] [] (mj_hw w c g hl)) (fun k g => wi_R s (96 + 3 * k) h0 g) 12 (fun k g hk hg => ?_) h (by simpa using q)
  · obtain ⟨g, e, hg⟩ := key
    refine ⟨g, Eq.trans e ?_, hg⟩
    show mj_den mj_P E (d + 1) 288 64 [.ref 205, .int (nI 12)] [] (mj_hw w c g hl) = _
    rw [q288_64]
    simp (disch := omega) only [↓reduceIte, Bool.false_eq_true, eq_self, mj_10, mj_01, mj_n10, mj_0n1, mj_1n1, mj_n11, mj_bi_some, mj_bv_some, mj_bj_some, mj_br_some, mj_r0, mj_r1, mj_q0, mj_q1, mj_b01, mj_q2, if_true, if_false, mj_it, mj_if, true_and, and_true, false_and, and_false, not_true_eq_false, not_false_eq_true, true_or, or_true, false_or, or_false, mj_nIle, mj_nIlt, mj_nIeq, mj_nI0, mj_nIc, mj_nIadd, mj_nIs, mj_ez, mj_ze, mj_eo, mj_ltz, mj_lez, mj_zlt, mj_olt, mj_lto, mj_leo, mj_ole, mj_nIn, mj_nnI, nl_2, nl_3, nl_4, nl_5, nl_6, nl_7, nl_8, nl_9, nl_10, nl_11, nl_12, nl_13, nl_14, nl_15, nl_16, nl_17, nl_18, nl_19, nl_20, nl_21, nl_22, nl_23, nl_24, nl_25, nl_26, nl_27, nl_28, nl_29, nl_30, nl_32, nl_33, nl_34, nl_35, nl_36, nl_37, nl_38, nl_39, nl_40, nl_41, nl_42, nl_43, nl_44, nl_45, nl_46, nl_47, nl_48, nl_49, nl_50, nl_51, nl_52, nl_53, nl_54, nl_55, nl_56, nl_57, nl_58, nl_59, nl_60, nl_61, nl_62, nl_64, nl_65, nl_66, nl_67, nl_68, nl_69, nl_92, nl_97, nl_99, nl_100, nl_122, nl_127, nl_128, nl_131, nl_132, nl_150, nl_200, nl_255, nl_256, nl_300, nl_342, nl_380, nl_381, nl_400, nl_401, nl_420, nl_500, nl_600, nl_800, nl_999, nl_1000, nl_1023, nl_1024, nl_1200, nl_2048, nl_2100, nl_4096, nl_9999, nl_10000, nl_10240, nl_999999, nl_1000000, if_pos, if_neg]
  · have t0 : wi_src (96 + 3 * k) = (211, k) := by
      have := (wi_sp (a := 211) (k := k) (decide_eq_true (Or.inl (show k < iv_ml 211 by unfold iv_ml; omega)))).1
      unfold wi_pos at this
      simp only at this
      first | exact this | (rw [← this]; congr 1; omega)
    obtain ⟨x1, h1, e1, f1, q1⟩ := s_swap (E := E) (d := d) (w := w) (c := c) (hl := hl) (by omega) t0 hg
    have e1 := e1 _ rfl
    have t1 : wi_src (96 + 3 * k + 1) = (212, k) := by
      have := (wi_sp (a := 212) (k := k) (decide_eq_true (Or.inl (show k < iv_ml 212 by unfold iv_ml; omega)))).1
      unfold wi_pos at this
      simp only at this
      first | exact this | (rw [← this]; congr 1; omega)
    obtain ⟨x2, h2, e2, f2, q2⟩ := s_swap (E := E) (d := d) (w := w) (c := c) (hl := hl) (by omega) t1 q1
    have e2 := e2 _ (mj_u_pt (by omega)).symm
    have t2 : wi_src (96 + 3 * k + 1 + 1) = (237, k) := by
      have := (wi_sp (a := 237) (k := k) (decide_eq_true (Or.inl (show k < iv_ml 237 by unfold iv_ml; omega)))).1
      unfold wi_pos at this
      simp only at this
      first | exact this | (rw [← this]; congr 1; omega)
    obtain ⟨x3, h3, e3, f3, q3⟩ := s_swap (E := E) (d := d) (w := w) (c := c) (hl := hl) (by omega) t2 q2
    have e3 := e3 _ (mj_u_pt (by omega)).symm
    refine ⟨_, ?_, show wi_R s (96 + 3 * (k + 1)) h0 _ from (show 96 + 3 * k + 1 + 1 + 1 = 96 + 3 * (k + 1) by omega) ▸ q3⟩
    show mj_den mj_P E (d + 1) 288 64 [.ref 205, .int (nI k)] [] (mj_hw w c g hl) = _
    rw [q288_64]
    simp (disch := omega) only [↓reduceIte, Bool.false_eq_true, eq_self, mj_10, mj_01, mj_n10, mj_0n1, mj_1n1, mj_n11, mj_bi_some, mj_bv_some, mj_bj_some, mj_br_some, mj_r0, mj_r1, mj_q0, mj_q1, mj_b01, mj_q2, if_true, if_false, mj_it, mj_if, true_and, and_true, false_and, and_false, not_true_eq_false, not_false_eq_true, true_or, or_true, false_or, or_false, mj_nIle, mj_nIlt, mj_nIeq, mj_nI0, mj_nIc, mj_nIadd, mj_nIs, mj_ez, mj_ze, mj_eo, mj_ltz, mj_lez, mj_zlt, mj_olt, mj_lto, mj_leo, mj_ole, mj_nIn, mj_nnI, nl_2, nl_3, nl_4, nl_5, nl_6, nl_7, nl_8, nl_9, nl_10, nl_11, nl_12, nl_13, nl_14, nl_15, nl_16, nl_17, nl_18, nl_19, nl_20, nl_21, nl_22, nl_23, nl_24, nl_25, nl_26, nl_27, nl_28, nl_29, nl_30, nl_32, nl_33, nl_34, nl_35, nl_36, nl_37, nl_38, nl_39, nl_40, nl_41, nl_42, nl_43, nl_44, nl_45, nl_46, nl_47, nl_48, nl_49, nl_50, nl_51, nl_52, nl_53, nl_54, nl_55, nl_56, nl_57, nl_58, nl_59, nl_60, nl_61, nl_62, nl_64, nl_65, nl_66, nl_67, nl_68, nl_69, nl_92, nl_97, nl_99, nl_100, nl_122, nl_127, nl_128, nl_131, nl_132, nl_150, nl_200, nl_255, nl_256, nl_300, nl_342, nl_380, nl_381, nl_400, nl_401, nl_420, nl_500, nl_600, nl_800, nl_999, nl_1000, nl_1023, nl_1024, nl_1200, nl_2048, nl_2100, nl_4096, nl_9999, nl_10000, nl_10240, nl_999999, nl_1000000, if_pos, if_neg, q288_85, q288_101, q288_117, e1, e2, e3]
theorem s_w288c {E : mj_E} {d w c : Nat} {hl : Nat → Nat → Int64} {s : Bool} {h0 h : mj_HI}  (q : wi_R s 132 h0 h) : ∃ h', mj_den mj_P E (d + 1) 288 126 [.ref 205, .int 0] [] (mj_hw w c h hl) = mj_den mj_P E (d + 1) 288 154 [.ref 205, .int (nI 100)] [] (mj_hw w c h' hl) ∧ wi_R s 232 h0 h' := by
  have key := lp_ex (fun k (g : mj_HI) => mj_den mj_P E (d + 1) 288 126 [.ref 205, .int (nI k)] [] (mj_hw w c g hl)) (fun k g => wi_R s (132 + 1 * k) h0 g) 100 (fun k g hk hg => ?_) h (by simpa using q)
  · obtain ⟨g, e, hg⟩ := key
    refine ⟨g, Eq.trans e ?_, hg⟩
    show mj_den mj_P E (d + 1) 288 126 [.ref 205, .int (nI 100)] [] (mj_hw w c g hl) = _
    rw [q288_126]
    simp (disch := omega) only [↓reduceIte, Bool.false_eq_true, eq_self, mj_10, mj_01, mj_n10, mj_0n1, mj_1n1, mj_n11, mj_bi_some, mj_bv_some, mj_bj_some, mj_br_some, mj_r0, mj_r1, mj_q0, mj_q1, mj_b01, mj_q2, if_true, if_false, mj_it, mj_if, true_and, and_true, false_and, and_false, not_true_eq_false, not_false_eq_true, true_or, or_true, false_or, or_false, mj_nIle, mj_nIlt, mj_nIeq, mj_nI0, mj_nIc, mj_nIadd, mj_nIs, mj_ez, mj_ze, mj_eo, mj_ltz, mj_lez, mj_zlt, mj_olt, mj_lto, mj_leo, mj_ole, mj_nIn, mj_nnI, nl_2, nl_3, nl_4, nl_5, nl_6, nl_7, nl_8, nl_9, nl_10, nl_11, nl_12, nl_13, nl_14, nl_15, nl_16, nl_17, nl_18, nl_19, nl_20, nl_21, nl_22, nl_23, nl_24, nl_25, nl_26, nl_27, nl_28, nl_29, nl_30, nl_32, nl_33, nl_34, nl_35, nl_36, nl_37, nl_38, nl_39, nl_40, nl_41, nl_42, nl_43, nl_44, nl_45, nl_46, nl_47, nl_48, nl_49, nl_50, nl_51, nl_52, nl_53, nl_54, nl_55, nl_56, nl_57, nl_58, nl_59, nl_60, nl_61, nl_62, nl_64, nl_65, nl_66, nl_67, nl_68, nl_69, nl_92, nl_97, nl_99, nl_100, nl_122, nl_127, nl_128, nl_131, nl_132, nl_150, nl_200, nl_255, nl_256, nl_300, nl_342, nl_380, nl_381, nl_400, nl_401, nl_420, nl_500, nl_600, nl_800, nl_999, nl_1000, nl_1023, nl_1024, nl_1200, nl_2048, nl_2100, nl_4096, nl_9999, nl_10000, nl_10240, nl_999999, nl_1000000, if_pos, if_neg]
  · have t0 : wi_src (132 + 1 * k) = (230, k) := by
      have := (wi_sp (a := 230) (k := k) (decide_eq_true (Or.inl (show k < iv_ml 230 by unfold iv_ml; omega)))).1
      unfold wi_pos at this
      simp only at this
      first | exact this | (rw [← this]; congr 1; omega)
    obtain ⟨x1, h1, e1, f1, q1⟩ := s_swap (E := E) (d := d) (w := w) (c := c) (hl := hl) (by omega) t0 hg
    have e1 := e1 _ rfl
    refine ⟨_, ?_, show wi_R s (132 + 1 * (k + 1)) h0 _ from (show 132 + 1 * k + 1 = 132 + 1 * (k + 1) by omega) ▸ q1⟩
    show mj_den mj_P E (d + 1) 288 126 [.ref 205, .int (nI k)] [] (mj_hw w c g hl) = _
    rw [q288_126]
    simp (disch := omega) only [↓reduceIte, Bool.false_eq_true, eq_self, mj_10, mj_01, mj_n10, mj_0n1, mj_1n1, mj_n11, mj_bi_some, mj_bv_some, mj_bj_some, mj_br_some, mj_r0, mj_r1, mj_q0, mj_q1, mj_b01, mj_q2, if_true, if_false, mj_it, mj_if, true_and, and_true, false_and, and_false, not_true_eq_false, not_false_eq_true, true_or, or_true, false_or, or_false, mj_nIle, mj_nIlt, mj_nIeq, mj_nI0, mj_nIc, mj_nIadd, mj_nIs, mj_ez, mj_ze, mj_eo, mj_ltz, mj_lez, mj_zlt, mj_olt, mj_lto, mj_leo, mj_ole, mj_nIn, mj_nnI, nl_2, nl_3, nl_4, nl_5, nl_6, nl_7, nl_8, nl_9, nl_10, nl_11, nl_12, nl_13, nl_14, nl_15, nl_16, nl_17, nl_18, nl_19, nl_20, nl_21, nl_22, nl_23, nl_24, nl_25, nl_26, nl_27, nl_28, nl_29, nl_30, nl_32, nl_33, nl_34, nl_35, nl_36, nl_37, nl_38, nl_39, nl_40, nl_41, nl_42, nl_43, nl_44, nl_45, nl_46, nl_47, nl_48, nl_49, nl_50, nl_51, nl_52, nl_53, nl_54, nl_55, nl_56, nl_57, nl_58, nl_59, nl_60, nl_61, nl_62, nl_64, nl_65, nl_66, nl_67, nl_68, nl_69, nl_92, nl_97, nl_99, nl_100, nl_122, nl_127, nl_128, nl_131, nl_132, nl_150, nl_200, nl_255, nl_256, nl_300, nl_342, nl_380, nl_381, nl_400, nl_401, nl_420, nl_500, nl_600, nl_800, nl_999, nl_1000, nl_1023, nl_1024, nl_1200, nl_2048, nl_2100, nl_4096, nl_9999, nl_10000, nl_10240, nl_999999, nl_1000000, if_pos, if_neg, q288_147, e1]
theorem s_w288d {E : mj_E} {d w c : Nat} {hl : Nat → Nat → Int64} {s : Bool} {h0 h : mj_HI}  (q : wi_R s 232 h0 h) : ∃ h', mj_den mj_P E (d + 1) 288 156 [.ref 205, .int 0] [] (mj_hw w c h hl) = mj_den mj_P E (d + 1) 288 184 [.ref 205, .int (nI 6)] [] (mj_hw w c h' hl) ∧ wi_R s 238 h0 h' := by
  have key := lp_ex (fun k (g : mj_HI) => mj_den mj_P E (d + 1) 288 156 [.ref 205, .int (nI k)] [] (mj_hw w c g hl)) (fun k g => wi_R s (232 + 1 * k) h0 g) 6 (fun k g hk hg => ?_) h (by simpa using q)
  · obtain ⟨g, e, hg⟩ := key
    refine ⟨g, Eq.trans e ?_, hg⟩
    show mj_den mj_P E (d + 1) 288 156 [.ref 205, .int (nI 6)] [] (mj_hw w c g hl) = _
    rw [q288_156]
    simp (disch := omega) only [↓reduceIte, Bool.false_eq_true, eq_self, mj_10, mj_01, mj_n10, mj_0n1, mj_1n1, mj_n11, mj_bi_some, mj_bv_some, mj_bj_some, mj_br_some, mj_r0, mj_r1, mj_q0, mj_q1, mj_b01, mj_q2, if_true, if_false, mj_it, mj_if, true_and, and_true, false_and, and_false, not_true_eq_false, not_false_eq_true, true_or, or_true, false_or, or_false, mj_nIle, mj_nIlt, mj_nIeq, mj_nI0, mj_nIc, mj_nIadd, mj_nIs, mj_ez, mj_ze, mj_eo, mj_ltz, mj_lez, mj_zlt, mj_olt, mj_lto, mj_leo, mj_ole, mj_nIn, mj_nnI, nl_2, nl_3, nl_4, nl_5, nl_6, nl_7, nl_8, nl_9, nl_10, nl_11, nl_12, nl_13, nl_14, nl_15, nl_16, nl_17, nl_18, nl_19, nl_20, nl_21, nl_22, nl_23, nl_24, nl_25, nl_26, nl_27, nl_28, nl_29, nl_30, nl_32, nl_33, nl_34, nl_35, nl_36, nl_37, nl_38, nl_39, nl_40, nl_41, nl_42, nl_43, nl_44, nl_45, nl_46, nl_47, nl_48, nl_49, nl_50, nl_51, nl_52, nl_53, nl_54, nl_55, nl_56, nl_57, nl_58, nl_59, nl_60, nl_61, nl_62, nl_64, nl_65, nl_66, nl_67, nl_68, nl_69, nl_92, nl_97, nl_99, nl_100, nl_122, nl_127, nl_128, nl_131, nl_132, nl_150, nl_200, nl_255, nl_256, nl_300, nl_342, nl_380, nl_381, nl_400, nl_401, nl_420, nl_500, nl_600, nl_800, nl_999, nl_1000, nl_1023, nl_1024, nl_1200, nl_2048, nl_2100, nl_4096, nl_9999, nl_10000, nl_10240, nl_999999, nl_1000000, if_pos, if_neg]
  · have t0 : wi_src (232 + 1 * k) = (232, k) := by
      have := (wi_sp (a := 232) (k := k) (decide_eq_true (Or.inl (show k < iv_ml 232 by unfold iv_ml; omega)))).1
      unfold wi_pos at this
      simp only at this
      first | exact this | (rw [← this]; congr 1; omega)
    obtain ⟨x1, h1, e1, f1, q1⟩ := s_swap (E := E) (d := d) (w := w) (c := c) (hl := hl) (by omega) t0 hg
    have e1 := e1 _ rfl
    refine ⟨_, ?_, show wi_R s (232 + 1 * (k + 1)) h0 _ from (show 232 + 1 * k + 1 = 232 + 1 * (k + 1) by omega) ▸ q1⟩
    show mj_den mj_P E (d + 1) 288 156 [.ref 205, .int (nI k)] [] (mj_hw w c g hl) = _
    rw [q288_156]
    simp (disch := omega) only [↓reduceIte, Bool.false_eq_true, eq_self, mj_10, mj_01, mj_n10, mj_0n1, mj_1n1, mj_n11, mj_bi_some, mj_bv_some, mj_bj_some, mj_br_some, mj_r0, mj_r1, mj_q0, mj_q1, mj_b01, mj_q2, if_true, if_false, mj_it, mj_if, true_and, and_true, false_and, and_false, not_true_eq_false, not_false_eq_true, true_or, or_true, false_or, or_false, mj_nIle, mj_nIlt, mj_nIeq, mj_nI0, mj_nIc, mj_nIadd, mj_nIs, mj_ez, mj_ze, mj_eo, mj_ltz, mj_lez, mj_zlt, mj_olt, mj_lto, mj_leo, mj_ole, mj_nIn, mj_nnI, nl_2, nl_3, nl_4, nl_5, nl_6, nl_7, nl_8, nl_9, nl_10, nl_11, nl_12, nl_13, nl_14, nl_15, nl_16, nl_17, nl_18, nl_19, nl_20, nl_21, nl_22, nl_23, nl_24, nl_25, nl_26, nl_27, nl_28, nl_29, nl_30, nl_32, nl_33, nl_34, nl_35, nl_36, nl_37, nl_38, nl_39, nl_40, nl_41, nl_42, nl_43, nl_44, nl_45, nl_46, nl_47, nl_48, nl_49, nl_50, nl_51, nl_52, nl_53, nl_54, nl_55, nl_56, nl_57, nl_58, nl_59, nl_60, nl_61, nl_62, nl_64, nl_65, nl_66, nl_67, nl_68, nl_69, nl_92, nl_97, nl_99, nl_100, nl_122, nl_127, nl_128, nl_131, nl_132, nl_150, nl_200, nl_255, nl_256, nl_300, nl_342, nl_380, nl_381, nl_400, nl_401, nl_420, nl_500, nl_600, nl_800, nl_999, nl_1000, nl_1023, nl_1024, nl_1200, nl_2048, nl_2100, nl_4096, nl_9999, nl_10000, nl_10240, nl_999999, nl_1000000, if_pos, if_neg, q288_177, e1]
theorem s_w288e {E : mj_E} {d w c : Nat} {hl : Nat → Nat → Int64} {s : Bool} {h0 h : mj_HI}  (q : wi_R s 238 h0 h) : ∃ h', mj_den mj_P E (d + 1) 288 186 [.ref 205, .int 0] [] (mj_hw w c h hl) = mj_den mj_P E (d + 1) 288 230 [.ref 205, .int (nI 7)] [] (mj_hw w c h' hl) ∧ wi_R s 252 h0 h' := by
  have key := lp_ex (fun k (g : mj_HI) => mj_den mj_P E (d + 1) 288 186 [.ref 205, .int (nI k)] [] (mj_hw w c g hl)) (fun k g => wi_R s (238 + 2 * k) h0 g) 7 (fun k g hk hg => ?_) h (by simpa using q)
  · obtain ⟨g, e, hg⟩ := key
    refine ⟨g, Eq.trans e ?_, hg⟩
    show mj_den mj_P E (d + 1) 288 186 [.ref 205, .int (nI 7)] [] (mj_hw w c g hl) = _
    rw [q288_186]
    simp (disch := omega) only [↓reduceIte, Bool.false_eq_true, eq_self, mj_10, mj_01, mj_n10, mj_0n1, mj_1n1, mj_n11, mj_bi_some, mj_bv_some, mj_bj_some, mj_br_some, mj_r0, mj_r1, mj_q0, mj_q1, mj_b01, mj_q2, if_true, if_false, mj_it, mj_if, true_and, and_true, false_and, and_false, not_true_eq_false, not_false_eq_true, true_or, or_true, false_or, or_false, mj_nIle, mj_nIlt, mj_nIeq, mj_nI0, mj_nIc, mj_nIadd, mj_nIs, mj_ez, mj_ze, mj_eo, mj_ltz, mj_lez, mj_zlt, mj_olt, mj_lto, mj_leo, mj_ole, mj_nIn, mj_nnI, nl_2, nl_3, nl_4, nl_5, nl_6, nl_7, nl_8, nl_9, nl_10, nl_11, nl_12, nl_13, nl_14, nl_15, nl_16, nl_17, nl_18, nl_19, nl_20, nl_21, nl_22, nl_23, nl_24, nl_25, nl_26, nl_27, nl_28, nl_29, nl_30, nl_32, nl_33, nl_34, nl_35, nl_36, nl_37, nl_38, nl_39, nl_40, nl_41, nl_42, nl_43, nl_44, nl_45, nl_46, nl_47, nl_48, nl_49, nl_50, nl_51, nl_52, nl_53, nl_54, nl_55, nl_56, nl_57, nl_58, nl_59, nl_60, nl_61, nl_62, nl_64, nl_65, nl_66, nl_67, nl_68, nl_69, nl_92, nl_97, nl_99, nl_100, nl_122, nl_127, nl_128, nl_131, nl_132, nl_150, nl_200, nl_255, nl_256, nl_300, nl_342, nl_380, nl_381, nl_400, nl_401, nl_420, nl_500, nl_600, nl_800, nl_999, nl_1000, nl_1023, nl_1024, nl_1200, nl_2048, nl_2100, nl_4096, nl_9999, nl_10000, nl_10240, nl_999999, nl_1000000, if_pos, if_neg]
  · have t0 : wi_src (238 + 2 * k) = (234, k) := by
      have := (wi_sp (a := 234) (k := k) (decide_eq_true (Or.inl (show k < iv_ml 234 by unfold iv_ml; omega)))).1
      unfold wi_pos at this
      simp only at this
      first | exact this | (rw [← this]; congr 1; omega)
    obtain ⟨x1, h1, e1, f1, q1⟩ := s_swap (E := E) (d := d) (w := w) (c := c) (hl := hl) (by omega) t0 hg
    have e1 := e1 _ rfl
    have t1 : wi_src (238 + 2 * k + 1) = (235, k) := by
      have := (wi_sp (a := 235) (k := k) (decide_eq_true (Or.inl (show k < iv_ml 235 by unfold iv_ml; omega)))).1
      unfold wi_pos at this
      simp only at this
      first | exact this | (rw [← this]; congr 1; omega)
    obtain ⟨x2, h2, e2, f2, q2⟩ := s_swap (E := E) (d := d) (w := w) (c := c) (hl := hl) (by omega) t1 q1
    have e2 := e2 _ (mj_u_pt (by omega)).symm
    refine ⟨_, ?_, show wi_R s (238 + 2 * (k + 1)) h0 _ from (show 238 + 2 * k + 1 + 1 = 238 + 2 * (k + 1) by omega) ▸ q2⟩
    show mj_den mj_P E (d + 1) 288 186 [.ref 205, .int (nI k)] [] (mj_hw w c g hl) = _
    rw [q288_186]
    simp (disch := omega) only [↓reduceIte, Bool.false_eq_true, eq_self, mj_10, mj_01, mj_n10, mj_0n1, mj_1n1, mj_n11, mj_bi_some, mj_bv_some, mj_bj_some, mj_br_some, mj_r0, mj_r1, mj_q0, mj_q1, mj_b01, mj_q2, if_true, if_false, mj_it, mj_if, true_and, and_true, false_and, and_false, not_true_eq_false, not_false_eq_true, true_or, or_true, false_or, or_false, mj_nIle, mj_nIlt, mj_nIeq, mj_nI0, mj_nIc, mj_nIadd, mj_nIs, mj_ez, mj_ze, mj_eo, mj_ltz, mj_lez, mj_zlt, mj_olt, mj_lto, mj_leo, mj_ole, mj_nIn, mj_nnI, nl_2, nl_3, nl_4, nl_5, nl_6, nl_7, nl_8, nl_9, nl_10, nl_11, nl_12, nl_13, nl_14, nl_15, nl_16, nl_17, nl_18, nl_19, nl_20, nl_21, nl_22, nl_23, nl_24, nl_25, nl_26, nl_27, nl_28, nl_29, nl_30, nl_32, nl_33, nl_34, nl_35, nl_36, nl_37, nl_38, nl_39, nl_40, nl_41, nl_42, nl_43, nl_44, nl_45, nl_46, nl_47, nl_48, nl_49, nl_50, nl_51, nl_52, nl_53, nl_54, nl_55, nl_56, nl_57, nl_58, nl_59, nl_60, nl_61, nl_62, nl_64, nl_65, nl_66, nl_67, nl_68, nl_69, nl_92, nl_97, nl_99, nl_100, nl_122, nl_127, nl_128, nl_131, nl_132, nl_150, nl_200, nl_255, nl_256, nl_300, nl_342, nl_380, nl_381, nl_400, nl_401, nl_420, nl_500, nl_600, nl_800, nl_999, nl_1000, nl_1023, nl_1024, nl_1200, nl_2048, nl_2100, nl_4096, nl_9999, nl_10000, nl_10240, nl_999999, nl_1000000, if_pos, if_neg, q288_207, q288_223, e1, e2]
theorem s_w288f {E : mj_E} {d w c : Nat} {hl : Nat → Nat → Int64} {s : Bool} {h0 h : mj_HI}  (q : wi_R s 252 h0 h) : ∃ h', mj_den mj_P E (d + 1) 288 232 [.ref 205, .int 0] [] (mj_hw w c h hl) = mj_den mj_P E (d + 1) 288 260 [.ref 205, .int (nI 8)] [] (mj_hw w c h' hl) ∧ wi_R s 260 h0 h' := by
  have key := lp_ex (fun k (g : mj_HI) => mj_den mj_P E (d + 1) 288 232 [.ref 205, .int (nI k)] [] (mj_hw w c g hl)) (fun k g => wi_R s (252 + 1 * k) h0 g) 8 (fun k g hk hg => ?_) h (by simpa using q)
  · obtain ⟨g, e, hg⟩ := key
    refine ⟨g, Eq.trans e ?_, hg⟩
    show mj_den mj_P E (d + 1) 288 232 [.ref 205, .int (nI 8)] [] (mj_hw w c g hl) = _
    rw [q288_232]
    simp (disch := omega) only [↓reduceIte, Bool.false_eq_true, eq_self, mj_10, mj_01, mj_n10, mj_0n1, mj_1n1, mj_n11, mj_bi_some, mj_bv_some, mj_bj_some, mj_br_some, mj_r0, mj_r1, mj_q0, mj_q1, mj_b01, mj_q2, if_true, if_false, mj_it, mj_if, true_and, and_true, false_and, and_false, not_true_eq_false, not_false_eq_true, true_or, or_true, false_or, or_false, mj_nIle, mj_nIlt, mj_nIeq, mj_nI0, mj_nIc, mj_nIadd, mj_nIs, mj_ez, mj_ze, mj_eo, mj_ltz, mj_lez, mj_zlt, mj_olt, mj_lto, mj_leo, mj_ole, mj_nIn, mj_nnI, nl_2, nl_3, nl_4, nl_5, nl_6, nl_7, nl_8, nl_9, nl_10, nl_11, nl_12, nl_13, nl_14, nl_15, nl_16, nl_17, nl_18, nl_19, nl_20, nl_21, nl_22, nl_23, nl_24, nl_25, nl_26, nl_27, nl_28, nl_29, nl_30, nl_32, nl_33, nl_34, nl_35, nl_36, nl_37, nl_38, nl_39, nl_40, nl_41, nl_42, nl_43, nl_44, nl_45, nl_46, nl_47, nl_48, nl_49, nl_50, nl_51, nl_52, nl_53, nl_54, nl_55, nl_56, nl_57, nl_58, nl_59, nl_60, nl_61, nl_62, nl_64, nl_65, nl_66, nl_67, nl_68, nl_69, nl_92, nl_97, nl_99, nl_100, nl_122, nl_127, nl_128, nl_131, nl_132, nl_150, nl_200, nl_255, nl_256, nl_300, nl_342, nl_380, nl_381, nl_400, nl_401, nl_420, nl_500, nl_600, nl_800, nl_999, nl_1000, nl_1023, nl_1024, nl_1200, nl_2048, nl_2100, nl_4096, nl_9999, nl_10000, nl_10240, nl_999999, nl_1000000, if_pos, if_neg]
  · have t0 : wi_src (252 + 1 * k) = (233, k) := by
      have := (wi_sp (a := 233) (k := k) (decide_eq_true (Or.inl (show k < iv_ml 233 by unfold iv_ml; omega)))).1
      unfold wi_pos at this
      simp only at this
      first | exact this | (rw [← this]; congr 1; omega)
    obtain ⟨x1, h1, e1, f1, q1⟩ := s_swap (E := E) (d := d) (w := w) (c := c) (hl := hl) (by omega) t0 hg
    have e1 := e1 _ rfl
    refine ⟨_, ?_, show wi_R s (252 + 1 * (k + 1)) h0 _ from (show 252 + 1 * k + 1 = 252 + 1 * (k + 1) by omega) ▸ q1⟩
    show mj_den mj_P E (d + 1) 288 232 [.ref 205, .int (nI k)] [] (mj_hw w c g hl) = _
    rw [q288_232]
    simp (disch := omega) only [↓reduceIte, Bool.false_eq_true, eq_self, mj_10, mj_01, mj_n10, mj_0n1, mj_1n1, mj_n11, mj_bi_some, mj_bv_some, mj_bj_some, mj_br_some, mj_r0, mj_r1, mj_q0, mj_q1, mj_b01, mj_q2, if_true, if_false, mj_it, mj_if, true_and, and_true, false_and, and_false, not_true_eq_false, not_false_eq_true, true_or, or_true, false_or, or_false, mj_nIle, mj_nIlt, mj_nIeq, mj_nI0, mj_nIc, mj_nIadd, mj_nIs, mj_ez, mj_ze, mj_eo, mj_ltz, mj_lez, mj_zlt, mj_olt, mj_lto, mj_leo, mj_ole, mj_nIn, mj_nnI, nl_2, nl_3, nl_4, nl_5, nl_6, nl_7, nl_8, nl_9, nl_10, nl_11, nl_12, nl_13, nl_14, nl_15, nl_16, nl_17, nl_18, nl_19, nl_20, nl_21, nl_22, nl_23, nl_24, nl_25, nl_26, nl_27, nl_28, nl_29, nl_30, nl_32, nl_33, nl_34, nl_35, nl_36, nl_37, nl_38, nl_39, nl_40, nl_41, nl_42, nl_43, nl_44, nl_45, nl_46, nl_47, nl_48, nl_49, nl_50, nl_51, nl_52, nl_53, nl_54, nl_55, nl_56, nl_57, nl_58, nl_59, nl_60, nl_61, nl_62, nl_64, nl_65, nl_66, nl_67, nl_68, nl_69, nl_92, nl_97, nl_99, nl_100, nl_122, nl_127, nl_128, nl_131, nl_132, nl_150, nl_200, nl_255, nl_256, nl_300, nl_342, nl_380, nl_381, nl_400, nl_401, nl_420, nl_500, nl_600, nl_800, nl_999, nl_1000, nl_1023, nl_1024, nl_1200, nl_2048, nl_2100, nl_4096, nl_9999, nl_10000, nl_10240, nl_999999, nl_1000000, if_pos, if_neg, q288_253, e1]
theorem s_w288g {E : mj_E} {d w c : Nat} {hl : Nat → Nat → Int64} {s : Bool} {h0 h : mj_HI}  (q : wi_R s 260 h0 h) : ∃ h', mj_den mj_P E (d + 1) 288 262 [.ref 205, .int 0] [] (mj_hw w c h hl) = mj_den mj_P E (d + 1) 288 290 [.ref 205, .int (nI 32)] [] (mj_hw w c h' hl) ∧ wi_R s 292 h0 h' := by
  have key := lp_ex (fun k (g : mj_HI) => mj_den mj_P E (d + 1) 288 262 [.ref 205, .int (nI k)] [] (mj_hw w c g hl)) (fun k g => wi_R s (260 + 1 * k) h0 g) 32 (fun k g hk hg => ?_) h (by simpa using q)
  · obtain ⟨g, e, hg⟩ := key
    refine ⟨g, Eq.trans e ?_, hg⟩
    show mj_den mj_P E (d + 1) 288 262 [.ref 205, .int (nI 32)] [] (mj_hw w c g hl) = _
    rw [q288_262]
    simp (disch := omega) only [↓reduceIte, Bool.false_eq_true, eq_self, mj_10, mj_01, mj_n10, mj_0n1, mj_1n1, mj_n11, mj_bi_some, mj_bv_some, mj_bj_some, mj_br_some, mj_r0, mj_r1, mj_q0, mj_q1, mj_b01, mj_q2, if_true, if_false, mj_it, mj_if, true_and, and_true, false_and, and_false, not_true_eq_false, not_false_eq_true, true_or, or_true, false_or, or_false, mj_nIle, mj_nIlt, mj_nIeq, mj_nI0, mj_nIc, mj_nIadd, mj_nIs, mj_ez, mj_ze, mj_eo, mj_ltz, mj_lez, mj_zlt, mj_olt, mj_lto, mj_leo, mj_ole, mj_nIn, mj_nnI, nl_2, nl_3, nl_4, nl_5, nl_6, nl_7, nl_8, nl_9, nl_10, nl_11, nl_12, nl_13, nl_14, nl_15, nl_16, nl_17, nl_18, nl_19, nl_20, nl_21, nl_22, nl_23, nl_24, nl_25, nl_26, nl_27, nl_28, nl_29, nl_30, nl_32, nl_33, nl_34, nl_35, nl_36, nl_37, nl_38, nl_39, nl_40, nl_41, nl_42, nl_43, nl_44, nl_45, nl_46, nl_47, nl_48, nl_49, nl_50, nl_51, nl_52, nl_53, nl_54, nl_55, nl_56, nl_57, nl_58, nl_59, nl_60, nl_61, nl_62, nl_64, nl_65, nl_66, nl_67, nl_68, nl_69, nl_92, nl_97, nl_99, nl_100, nl_122, nl_127, nl_128, nl_131, nl_132, nl_150, nl_200, nl_255, nl_256, nl_300, nl_342, nl_380, nl_381, nl_400, nl_401, nl_420, nl_500, nl_600, nl_800, nl_999, nl_1000, nl_1023, nl_1024, nl_1200, nl_2048, nl_2100, nl_4096, nl_9999, nl_10000, nl_10240, nl_999999, nl_1000000, if_pos, if_neg]
  · have t0 : wi_src (260 + 1 * k) = (224, k) := by
      have := (wi_sp (a := 224) (k := k) (decide_eq_true (Or.inl (show k < iv_ml 224 by unfold iv_ml; omega)))).1
      unfold wi_pos at this
      simp only at this
      first | exact this | (rw [← this]; congr 1; omega)
    obtain ⟨x1, h1, e1, f1, q1⟩ := s_swap (E := E) (d := d) (w := w) (c := c) (hl := hl) (by omega) t0 hg
    have e1 := e1 _ rfl
    refine ⟨_, ?_, show wi_R s (260 + 1 * (k + 1)) h0 _ from (show 260 + 1 * k + 1 = 260 + 1 * (k + 1) by omega) ▸ q1⟩
    show mj_den mj_P E (d + 1) 288 262 [.ref 205, .int (nI k)] [] (mj_hw w c g hl) = _
    rw [q288_262]
    simp (disch := omega) only [↓reduceIte, Bool.false_eq_true, eq_self, mj_10, mj_01, mj_n10, mj_0n1, mj_1n1, mj_n11, mj_bi_some, mj_bv_some, mj_bj_some, mj_br_some, mj_r0, mj_r1, mj_q0, mj_q1, mj_b01, mj_q2, if_true, if_false, mj_it, mj_if, true_and, and_true, false_and, and_false, not_true_eq_false, not_false_eq_true, true_or, or_true, false_or, or_false, mj_nIle, mj_nIlt, mj_nIeq, mj_nI0, mj_nIc, mj_nIadd, mj_nIs, mj_ez, mj_ze, mj_eo, mj_ltz, mj_lez, mj_zlt, mj_olt, mj_lto, mj_leo, mj_ole, mj_nIn, mj_nnI, nl_2, nl_3, nl_4, nl_5, nl_6, nl_7, nl_8, nl_9, nl_10, nl_11, nl_12, nl_13, nl_14, nl_15, nl_16, nl_17, nl_18, nl_19, nl_20, nl_21, nl_22, nl_23, nl_24, nl_25, nl_26, nl_27, nl_28, nl_29, nl_30, nl_32, nl_33, nl_34, nl_35, nl_36, nl_37, nl_38, nl_39, nl_40, nl_41, nl_42, nl_43, nl_44, nl_45, nl_46, nl_47, nl_48, nl_49, nl_50, nl_51, nl_52, nl_53, nl_54, nl_55, nl_56, nl_57, nl_58, nl_59, nl_60, nl_61, nl_62, nl_64, nl_65, nl_66, nl_67, nl_68, nl_69, nl_92, nl_97, nl_99, nl_100, nl_122, nl_127, nl_128, nl_131, nl_132, nl_150, nl_200, nl_255, nl_256, nl_300, nl_342, nl_380, nl_381, nl_400, nl_401, nl_420, nl_500, nl_600, nl_800, nl_999, nl_1000, nl_1023, nl_1024, nl_1200, nl_2048, nl_2100, nl_4096, nl_9999, nl_10000, nl_10240, nl_999999, nl_1000000, if_pos, if_neg, q288_283, e1]
theorem s_w288h {E : mj_E} {d w c : Nat} {hl : Nat → Nat → Int64} {s : Bool} {h0 h : mj_HI}  (q : wi_R s 292 h0 h) : ∃ h', mj_den mj_P E (d + 1) 288 292 [.ref 205, .int 0] [] (mj_hw w c h hl) = mj_den mj_P E (d + 1) 288 320 [.ref 205, .int (nI 48)] [] (mj_hw w c h' hl) ∧ wi_R s 340 h0 h' := by
  have key := lp_ex (fun k (g : mj_HI) => mj_den mj_P E (d + 1) 288 292 [.ref 205, .int (nI k)] [] (mj_hw w c g hl)) (fun k g => wi_R s (292 + 1 * k) h0 g) 48 (fun k g hk hg => ?_) h (by simpa using q)
  · obtain ⟨g, e, hg⟩ := key
    refine ⟨g, Eq.trans e ?_, hg⟩
    show mj_den mj_P E (d + 1) 288 292 [.ref 205, .int (nI 48)] [] (mj_hw w c g hl) = _
    rw [q288_292]
    simp (disch := omega) only [↓reduceIte, Bool.false_eq_true, eq_self, mj_10, mj_01, mj_n10, mj_0n1, mj_1n1, mj_n11, mj_bi_some, mj_bv_some, mj_bj_some, mj_br_some, mj_r0, mj_r1, mj_q0, mj_q1, mj_b01, mj_q2, if_true, if_false, mj_it, mj_if, true_and, and_true, false_and, and_false, not_true_eq_false, not_false_eq_true, true_or, or_true, false_or, or_false, mj_nIle, mj_nIlt, mj_nIeq, mj_nI0, mj_nIc, mj_nIadd, mj_nIs, mj_ez, mj_ze, mj_eo, mj_ltz, mj_lez, mj_zlt, mj_olt, mj_lto, mj_leo, mj_ole, mj_nIn, mj_nnI, nl_2, nl_3, nl_4, nl_5, nl_6, nl_7, nl_8, nl_9, nl_10, nl_11, nl_12, nl_13, nl_14, nl_15, nl_16, nl_17, nl_18, nl_19, nl_20, nl_21, nl_22, nl_23, nl_24, nl_25, nl_26, nl_27, nl_28, nl_29, nl_30, nl_32, nl_33, nl_34, nl_35, nl_36, nl_37, nl_38, nl_39, nl_40, nl_41, nl_42, nl_43, nl_44, nl_45, nl_46, nl_47, nl_48, nl_49, nl_50, nl_51, nl_52, nl_53, nl_54, nl_55, nl_56, nl_57, nl_58, nl_59, nl_60, nl_61, nl_62, nl_64, nl_65, nl_66, nl_67, nl_68, nl_69, nl_92, nl_97, nl_99, nl_100, nl_122, nl_127, nl_128, nl_131, nl_132, nl_150, nl_200, nl_255, nl_256, nl_300, nl_342, nl_380, nl_381, nl_400, nl_401, nl_420, nl_500, nl_600, nl_800, nl_999, nl_1000, nl_1023, nl_1024, nl_1200, nl_2048, nl_2100, nl_4096, nl_9999, nl_10000, nl_10240, nl_999999, nl_1000000, if_pos, if_neg]
  · have t0 : wi_src (292 + 1 * k) = (226, k) := by
      have := (wi_sp (a := 226) (k := k) (decide_eq_true (Or.inl (show k < iv_ml 226 by unfold iv_ml; omega)))).1
      unfold wi_pos at this
      simp only at this
      first | exact this | (rw [← this]; congr 1; omega)
    obtain ⟨x1, h1, e1, f1, q1⟩ := s_swap (E := E) (d := d) (w := w) (c := c) (hl := hl) (by omega) t0 hg
    have e1 := e1 _ rfl
    refine ⟨_, ?_, show wi_R s (292 + 1 * (k + 1)) h0 _ from (show 292 + 1 * k + 1 = 292 + 1 * (k + 1) by omega) ▸ q1⟩
    show mj_den mj_P E (d + 1) 288 292 [.ref 205, .int (nI k)] [] (mj_hw w c g hl) = _
    rw [q288_292]
    simp (disch := omega) only [↓reduceIte, Bool.false_eq_true, eq_self, mj_10, mj_01, mj_n10, mj_0n1, mj_1n1, mj_n11, mj_bi_some, mj_bv_some, mj_bj_some, mj_br_some, mj_r0, mj_r1, mj_q0, mj_q1, mj_b01, mj_q2, if_true, if_false, mj_it, mj_if, true_and, and_true, false_and, and_false, not_true_eq_false, not_false_eq_true, true_or, or_true, false_or, or_false, mj_nIle, mj_nIlt, mj_nIeq, mj_nI0, mj_nIc, mj_nIadd, mj_nIs, mj_ez, mj_ze, mj_eo, mj_ltz, mj_lez, mj_zlt, mj_olt, mj_lto, mj_leo, mj_ole, mj_nIn, mj_nnI, nl_2, nl_3, nl_4, nl_5, nl_6, nl_7, nl_8, nl_9, nl_10, nl_11, nl_12, nl_13, nl_14, nl_15, nl_16, nl_17, nl_18, nl_19, nl_20, nl_21, nl_22, nl_23, nl_24, nl_25, nl_26, nl_27, nl_28, nl_29, nl_30, nl_32, nl_33, nl_34, nl_35, nl_36, nl_37, nl_38, nl_39, nl_40, nl_41, nl_42, nl_43, nl_44, nl_45, nl_46, nl_47, nl_48, nl_49, nl_50, nl_51, nl_52, nl_53, nl_54, nl_55, nl_56, nl_57, nl_58, nl_59, nl_60, nl_61, nl_62, nl_64, nl_65, nl_66, nl_67, nl_68, nl_69, nl_92, nl_97, nl_99, nl_100, nl_122, nl_127, nl_128, nl_131, nl_132, nl_150, nl_200, nl_255, nl_256, nl_300, nl_342, nl_380, nl_381, nl_400, nl_401, nl_420, nl_500, nl_600, nl_800, nl_999, nl_1000, nl_1023, nl_1024, nl_1200, nl_2048, nl_2100, nl_4096, nl_9999, nl_10000, nl_10240, nl_999999, nl_1000000, if_pos, if_neg, q288_313, e1]
theorem s_w286a {E : mj_E} {d w c : Nat} {hl : Nat → Nat → Int64} {s : Bool} {h0 h : mj_HI}  (q : wi_R s 941 h0 h) : ∃ h', mj_den mj_P E (d + 1) 286 18 [.ref 205, .int 0] [] (mj_hw w c h hl) = mj_den mj_P E (d + 1) 286 94 [.ref 205, .int (nI 16)] [] (mj_hw w c h' hl) ∧ wi_R s 1005 h0 h' := by
  have key := lp_ex (fun k (g : mj_HI) => mj_den mj_P E (d + 1) 286 18 [.ref 205, .int (nI k)] [] (mj_hw w c g hl)) (fun k g => wi_R s (941 + 4 * k) h0 g) 16 (fun k g hk hg => ?_) h (by simpa using q)
  · obtain ⟨g, e, hg⟩ := key
    refine ⟨g, Eq.trans e ?_, hg⟩
    show mj_den mj_P E (d + 1) 286 18 [.ref 205, .int (nI 16)] [] (mj_hw w c g hl) = _
    rw [q286_18]
    simp (disch := omega) only [↓reduceIte, Bool.false_eq_true, eq_self, mj_10, mj_01, mj_n10, mj_0n1, mj_1n1, mj_n11, mj_bi_some, mj_bv_some, mj_bj_some, mj_br_some, mj_r0, mj_r1, mj_q0, mj_q1, mj_b01, mj_q2, if_true, if_false, mj_it, mj_if, true_and, and_true, false_and, and_false, not_true_eq_false, not_false_eq_true, true_or, or_true, false_or, or_false, mj_nIle, mj_nIlt, mj_nIeq, mj_nI0, mj_nIc, mj_nIadd, mj_nIs, mj_ez, mj_ze, mj_eo, mj_ltz, mj_lez, mj_zlt, mj_olt, mj_lto, mj_leo, mj_ole, mj_nIn, mj_nnI, nl_2, nl_3, nl_4, nl_5, nl_6, nl_7, nl_8, nl_9, nl_10, nl_11, nl_12, nl_13, nl_14, nl_15, nl_16, nl_17, nl_18, nl_19, nl_20, nl_21, nl_22, nl_23, nl_24, nl_25, nl_26, nl_27, nl_28, nl_29, nl_30, nl_32, nl_33, nl_34, nl_35, nl_36, nl_37, nl_38, nl_39, nl_40, nl_41, nl_42, nl_43, nl_44, nl_45, nl_46, nl_47, nl_48, nl_49, nl_50, nl_51, nl_52, nl_53, nl_54, nl_55, nl_56, nl_57, nl_58, nl_59, nl_60, nl_61, nl_62, nl_64, nl_65, nl_66, nl_67, nl_68, nl_69, nl_92, nl_97, nl_99, nl_100, nl_122, nl_127, nl_128, nl_131, nl_132, nl_150, nl_200, nl_255, nl_256, nl_300, nl_342, nl_380, nl_381, nl_400, nl_401, nl_420, nl_500, nl_600, nl_800, nl_999, nl_1000, nl_1023, nl_1024, nl_1200, nl_2048, nl_2100, nl_4096, nl_9999, nl_10000, nl_10240, nl_999999, nl_1000000, if_pos, if_neg]
  · have t0 : wi_src (941 + 4 * k) = (217, k) := by
      have := (wi_sp (a := 217) (k := k) (decide_eq_true (Or.inl (show k < iv_ml 217 by unfold iv_ml; omega)))).1
      unfold wi_pos at this
      simp only at this
      first | exact this | (rw [← this]; congr 1; omega)
    obtain ⟨x1, h1, e1, f1, q1⟩ := s_swap (E := E) (d := d) (w := w) (c := c) (hl := hl) (by omega) t0 hg
    have e1 := e1 _ rfl
    have t1 : wi_src (941 + 4 * k + 1) = (218, k) := by
      have := (wi_sp (a := 218) (k := k) (decide_eq_true (Or.inl (show k < iv_ml 218 by unfold iv_ml; omega)))).1
      unfold wi_pos at this
      simp only at this
      first | exact this | (rw [← this]; congr 1; omega)
    obtain ⟨x2, h2, e2, f2, q2⟩ := s_swap (E := E) (d := d) (w := w) (c := c) (hl := hl) (by omega) t1 q1
    have e2 := e2 _ (mj_u_pt (by omega)).symm
    have t2 : wi_src (941 + 4 * k + 1 + 1) = (219, k) := by
      have := (wi_sp (a := 219) (k := k) (decide_eq_true (Or.inl (show k < iv_ml 219 by unfold iv_ml; omega)))).1
      unfold wi_pos at this
      simp only at this
      first | exact this | (rw [← this]; congr 1; omega)
    obtain ⟨x3, h3, e3, f3, q3⟩ := s_swap (E := E) (d := d) (w := w) (c := c) (hl := hl) (by omega) t2 q2
    have e3 := e3 _ (mj_u_pt (by omega)).symm
    have t3 : wi_src (941 + 4 * k + 1 + 1 + 1) = (220, k) := by
      have := (wi_sp (a := 220) (k := k) (decide_eq_true (Or.inl (show k < iv_ml 220 by unfold iv_ml; omega)))).1
      unfold wi_pos at this
      simp only at this
      first | exact this | (rw [← this]; congr 1; omega)
    obtain ⟨x4, h4, e4, f4, q4⟩ := s_swap (E := E) (d := d) (w := w) (c := c) (hl := hl) (by omega) t3 q3
    have e4 := e4 _ (mj_u_pt (by omega)).symm
    refine ⟨_, ?_, show wi_R s (941 + 4 * (k + 1)) h0 _ from (show 941 + 4 * k + 1 + 1 + 1 + 1 = 941 + 4 * (k + 1) by omega) ▸ q4⟩
    show mj_den mj_P E (d + 1) 286 18 [.ref 205, .int (nI k)] [] (mj_hw w c g hl) = _
    rw [q286_18]
    simp (disch := omega) only [↓reduceIte, Bool.false_eq_true, eq_self, mj_10, mj_01, mj_n10, mj_0n1, mj_1n1, mj_n11, mj_bi_some, mj_bv_some, mj_bj_some, mj_br_some, mj_r0, mj_r1, mj_q0, mj_q1, mj_b01, mj_q2, if_true, if_false, mj_it, mj_if, true_and, and_true, false_and, and_false, not_true_eq_false, not_false_eq_true, true_or, or_true, false_or, or_false, mj_nIle, mj_nIlt, mj_nIeq, mj_nI0, mj_nIc, mj_nIadd, mj_nIs, mj_ez, mj_ze, mj_eo, mj_ltz, mj_lez, mj_zlt, mj_olt, mj_lto, mj_leo, mj_ole, mj_nIn, mj_nnI, nl_2, nl_3, nl_4, nl_5, nl_6, nl_7, nl_8, nl_9, nl_10, nl_11, nl_12, nl_13, nl_14, nl_15, nl_16, nl_17, nl_18, nl_19, nl_20, nl_21, nl_22, nl_23, nl_24, nl_25, nl_26, nl_27, nl_28, nl_29, nl_30, nl_32, nl_33, nl_34, nl_35, nl_36, nl_37, nl_38, nl_39, nl_40, nl_41, nl_42, nl_43, nl_44, nl_45, nl_46, nl_47, nl_48, nl_49, nl_50, nl_51, nl_52, nl_53, nl_54, nl_55, nl_56, nl_57, nl_58, nl_59, nl_60, nl_61, nl_62, nl_64, nl_65, nl_66, nl_67, nl_68, nl_69, nl_92, nl_97, nl_99, nl_100, nl_122, nl_127, nl_128, nl_131, nl_132, nl_150, nl_200, nl_255, nl_256, nl_300, nl_342, nl_380, nl_381, nl_400, nl_401, nl_420, nl_500, nl_600, nl_800, nl_999, nl_1000, nl_1023, nl_1024, nl_1200, nl_2048, nl_2100, nl_4096, nl_9999, nl_10000, nl_10240, nl_999999, nl_1000000, if_pos, if_neg, q286_39, q286_55, q286_71, q286_87, e1, e2, e3, e4]
theorem s_w286b {E : mj_E} {d w c : Nat} {hl : Nat → Nat → Int64} {s : Bool} {h0 h : mj_HI}  (q : wi_R s 1005 h0 h) : ∃ h', mj_den mj_P E (d + 1) 286 96 [.ref 205, .int 0] [] (mj_hw w c h hl) = mj_den mj_P E (d + 1) 286 141 [.ref 205, .int (nI 400)] [] (mj_hw w c h' hl) ∧ wi_R s 1805 h0 h' := by
  have key := lp_ex (fun k (g : mj_HI) => mj_den mj_P E (d + 1) 286 96 [.ref 205, .int (nI k)] [] (mj_hw w c g hl)) (fun k g => wi_R s (1005 + 2 * k) h0 g) 400 (fun k g hk hg => ?_) h (by simpa using q)
  · obtain ⟨g, e, hg⟩ := key
    refine ⟨g, Eq.trans e ?_, hg⟩
    show mj_den mj_P E (d + 1) 286 96 [.ref 205, .int (nI 400)] [] (mj_hw w c g hl) = _
    rw [q286_96]
    simp (disch := omega) only [↓reduceIte, Bool.false_eq_true, eq_self, mj_10, mj_01, mj_n10, mj_0n1, mj_1n1, mj_n11, mj_bi_some, mj_bv_some, mj_bj_some, mj_br_some, mj_r0, mj_r1, mj_q0, mj_q1, mj_b01, mj_q2, if_true, if_false, mj_it, mj_if, true_and, and_true, false_and, and_false, not_true_eq_false, not_false_eq_true, true_or, or_true, false_or, or_false, mj_nIle, mj_nIlt, mj_nIeq, mj_nI0, mj_nIc, mj_nIadd, mj_nIs, mj_ez, mj_ze, mj_eo, mj_ltz, mj_lez, mj_zlt, mj_olt, mj_lto, mj_leo, mj_ole, mj_nIn, mj_nnI, nl_2, nl_3, nl_4, nl_5, nl_6, nl_7, nl_8, nl_9, nl_10, nl_11, nl_12, nl_13, nl_14, nl_15, nl_16, nl_17, nl_18, nl_19, nl_20, nl_21, nl_22, nl_23, nl_24, nl_25, nl_26, nl_27, nl_28, nl_29, nl_30, nl_32, nl_33, nl_34, nl_35, nl_36, nl_37, nl_38, nl_39, nl_40, nl_41, nl_42, nl_43, nl_44, nl_45, nl_46, nl_47, nl_48, nl_49, nl_50, nl_51, nl_52, nl_53, nl_54, nl_55, nl_56, nl_57, nl_58, nl_59, nl_60, nl_61, nl_62, nl_64, nl_65, nl_66, nl_67, nl_68, nl_69, nl_92, nl_97, nl_99, nl_100, nl_122, nl_127, nl_128, nl_131, nl_132, nl_150, nl_200, nl_255, nl_256, nl_300, nl_342, nl_380, nl_381, nl_400, nl_401, nl_420, nl_500, nl_600, nl_800, nl_999, nl_1000, nl_1023, nl_1024, nl_1200, nl_2048, nl_2100, nl_4096, nl_9999, nl_10000, nl_10240, nl_999999, nl_1000000, if_pos, if_neg]
  · have t0 : wi_src (1005 + 2 * k) = (221, k) := by
      have := (wi_sp (a := 221) (k := k) (decide_eq_true (Or.inl (show k < iv_ml 221 by unfold iv_ml; omega)))).1
      unfold wi_pos at this
      simp only at this
      first | exact this | (rw [← this]; congr 1; omega)
    obtain ⟨x1, h1, e1, f1, q1⟩ := s_swap (E := E) (d := d) (w := w) (c := c) (hl := hl) (by omega) t0 hg
    have e1 := e1 _ rfl
    have t1 : wi_src (1005 + 2 * k + 1) = (222, k) := by
      have := (wi_sp (a := 222) (k := k) (decide_eq_true (Or.inl (show k < iv_ml 222 by unfold iv_ml; omega)))).1
      unfold wi_pos at this
      simp only at this
      first | exact this | (rw [← this]; congr 1; omega)
    obtain ⟨x2, h2, e2, f2, q2⟩ := s_swap (E := E) (d := d) (w := w) (c := c) (hl := hl) (by omega) t1 q1
    have e2 := e2 _ (mj_u_pt (by omega)).symm
    refine ⟨_, ?_, show wi_R s (1005 + 2 * (k + 1)) h0 _ from (show 1005 + 2 * k + 1 + 1 = 1005 + 2 * (k + 1) by omega) ▸ q2⟩
    show mj_den mj_P E (d + 1) 286 96 [.ref 205, .int (nI k)] [] (mj_hw w c g hl) = _
    rw [q286_96]
    simp (disch := omega) only [↓reduceIte, Bool.false_eq_true, eq_self, mj_10, mj_01, mj_n10, mj_0n1, mj_1n1, mj_n11, mj_bi_some, mj_bv_some, mj_bj_some, mj_br_some, mj_r0, mj_r1, mj_q0, mj_q1, mj_b01, mj_q2, if_true, if_false, mj_it, mj_if, true_and, and_true, false_and, and_false, not_true_eq_false, not_false_eq_true, true_or, or_true, false_or, or_false, mj_nIle, mj_nIlt, mj_nIeq, mj_nI0, mj_nIc, mj_nIadd, mj_nIs, mj_ez, mj_ze, mj_eo, mj_ltz, mj_lez, mj_zlt, mj_olt, mj_lto, mj_leo, mj_ole, mj_nIn, mj_nnI, nl_2, nl_3, nl_4, nl_5, nl_6, nl_7, nl_8, nl_9, nl_10, nl_11, nl_12, nl_13, nl_14, nl_15, nl_16, nl_17, nl_18, nl_19, nl_20, nl_21, nl_22, nl_23, nl_24, nl_25, nl_26, nl_27, nl_28, nl_29, nl_30, nl_32, nl_33, nl_34, nl_35, nl_36, nl_37, nl_38, nl_39, nl_40, nl_41, nl_42, nl_43, nl_44, nl_45, nl_46, nl_47, nl_48, nl_49, nl_50, nl_51, nl_52, nl_53, nl_54, nl_55, nl_56, nl_57, nl_58, nl_59, nl_60, nl_61, nl_62, nl_64, nl_65, nl_66, nl_67, nl_68, nl_69, nl_92, nl_97, nl_99, nl_100, nl_122, nl_127, nl_128, nl_131, nl_132, nl_150, nl_200, nl_255, nl_256, nl_300, nl_342, nl_380, nl_381, nl_400, nl_401, nl_420, nl_500, nl_600, nl_800, nl_999, nl_1000, nl_1023, nl_1024, nl_1200, nl_2048, nl_2100, nl_4096, nl_9999, nl_10000, nl_10240, nl_999999, nl_1000000, if_pos, if_neg, q286_118, q286_134, e1, e2]
theorem s_w289a {E : mj_E} {d w c : Nat} {hl : Nat → Nat → Int64} {s : Bool} {h0 h : mj_HI} {v1 : Int32} (q : wi_R s 0 h0 h) : ∃ h', mj_den mj_P E (d + 1) 289 35 [.ref 205, .int v1, .int 0] [] (mj_hw w c h hl) = mj_den mj_P E (d + 1) 289 63 [.ref 205, .int v1, .int (nI 57)] [] (mj_hw w c h' hl) ∧ wi_R s 57 h0 h' := by
  have key := lp_ex (fun k (g : mj_HI) => mj_den mj_P E (d + 1) 289 35 [.ref 205, .int v1, .int (nI k)] [] (mj_hw w c g hl)) (fun k g => wi_R s (0 + 1 * k) h0 g) 57 (fun k g hk hg => ?_) h (by simpa using q)
  · obtain ⟨g, e, hg⟩ := key
    refine ⟨g, Eq.trans e ?_, hg⟩
    show mj_den mj_P E (d + 1) 289 35 [.ref 205, .int v1, .int (nI 57)] [] (mj_hw w c g hl) = _
    rw [q289_35]
    simp (disch := omega) only [↓reduceIte, Bool.false_eq_true, eq_self, mj_10, mj_01, mj_n10, mj_0n1, mj_1n1, mj_n11, mj_bi_some, mj_bv_some, mj_bj_some, mj_br_some, mj_r0, mj_r1, mj_q0, mj_q1, mj_b01, mj_q2, if_true, if_false, mj_it, mj_if, true_and, and_true, false_and, and_false, not_true_eq_false, not_false_eq_true, true_or, or_true, false_or, or_false, mj_nIle, mj_nIlt, mj_nIeq, mj_nI0, mj_nIc, mj_nIadd, mj_nIs, mj_ez, mj_ze, mj_eo, mj_ltz, mj_lez, mj_zlt, mj_olt, mj_lto, mj_leo, mj_ole, mj_nIn, mj_nnI, nl_2, nl_3, nl_4, nl_5, nl_6, nl_7, nl_8, nl_9, nl_10, nl_11, nl_12, nl_13, nl_14, nl_15, nl_16, nl_17, nl_18, nl_19, nl_20, nl_21, nl_22, nl_23, nl_24, nl_25, nl_26, nl_27, nl_28, nl_29, nl_30, nl_32, nl_33, nl_34, nl_35, nl_36, nl_37, nl_38, nl_39, nl_40, nl_41, nl_42, nl_43, nl_44, nl_45, nl_46, nl_47, nl_48, nl_49, nl_50, nl_51, nl_52, nl_53, nl_54, nl_55, nl_56, nl_57, nl_58, nl_59, nl_60, nl_61, nl_62, nl_64, nl_65, nl_66, nl_67, nl_68, nl_69, nl_92, nl_97, nl_99, nl_100, nl_122, nl_127, nl_128, nl_131, nl_132, nl_150, nl_200, nl_255, nl_256, nl_300, nl_342, nl_380, nl_381, nl_400, nl_401, nl_420, nl_500, nl_600, nl_800, nl_999, nl_1000, nl_1023, nl_1024, nl_1200, nl_2048, nl_2100, nl_4096, nl_9999, nl_10000, nl_10240, nl_999999, nl_1000000, if_pos, if_neg]
  · have t0 : wi_src (0 + 1 * k) = (206, k) := by
      have := (wi_sp (a := 206) (k := k) (decide_eq_true (Or.inl (show k < iv_ml 206 by unfold iv_ml; omega)))).1
      unfold wi_pos at this
      simp only at this
      first | exact this | (rw [← this]; congr 1; omega)
    obtain ⟨x1, h1, e1, f1, q1⟩ := s_swap (E := E) (d := d) (w := w) (c := c) (hl := hl) (by omega) t0 hg
    have e1 := e1 _ rfl
    refine ⟨_, ?_, show wi_R s (0 + 1 * (k + 1)) h0 _ from (show 0 + 1 * k + 1 = 0 + 1 * (k + 1) by omega) ▸ q1⟩
    show mj_den mj_P E (d + 1) 289 35 [.ref 205, .int v1, .int (nI k)] [] (mj_hw w c g hl) = _
    rw [q289_35]
    simp (disch := omega) only [↓reduceIte, Bool.false_eq_true, eq_self, mj_10, mj_01, mj_n10, mj_0n1, mj_1n1, mj_n11, mj_bi_some, mj_bv_some, mj_bj_some, mj_br_some, mj_r0, mj_r1, mj_q0, mj_q1, mj_b01, mj_q2, if_true, if_false, mj_it, mj_if, true_and, and_true, false_and, and_false, not_true_eq_false, not_false_eq_true, true_or, or_true, false_or, or_false, mj_nIle, mj_nIlt, mj_nIeq, mj_nI0, mj_nIc, mj_nIadd, mj_nIs, mj_ez, mj_ze, mj_eo, mj_ltz, mj_lez, mj_zlt, mj_olt, mj_lto, mj_leo, mj_ole, mj_nIn, mj_nnI, nl_2, nl_3, nl_4, nl_5, nl_6, nl_7, nl_8, nl_9, nl_10, nl_11, nl_12, nl_13, nl_14, nl_15, nl_16, nl_17, nl_18, nl_19, nl_20, nl_21, nl_22, nl_23, nl_24, nl_25, nl_26, nl_27, nl_28, nl_29, nl_30, nl_32, nl_33, nl_34, nl_35, nl_36, nl_37, nl_38, nl_39, nl_40, nl_41, nl_42, nl_43, nl_44, nl_45, nl_46, nl_47, nl_48, nl_49, nl_50, nl_51, nl_52, nl_53, nl_54, nl_55, nl_56, nl_57, nl_58, nl_59, nl_60, nl_61, nl_62, nl_64, nl_65, nl_66, nl_67, nl_68, nl_69, nl_92, nl_97, nl_99, nl_100, nl_122, nl_127, nl_128, nl_131, nl_132, nl_150, nl_200, nl_255, nl_256, nl_300, nl_342, nl_380, nl_381, nl_400, nl_401, nl_420, nl_500, nl_600, nl_800, nl_999, nl_1000, nl_1023, nl_1024, nl_1200, nl_2048, nl_2100, nl_4096, nl_9999, nl_10000, nl_10240, nl_999999, nl_1000000, if_pos, if_neg, q289_56, e1]
theorem s_w289b {E : mj_E} {d w c : Nat} {hl : Nat → Nat → Int64} {s : Bool} {h0 h : mj_HI} {v1 : Int32} (q : wi_R s 340 h0 h) : ∃ h', mj_den mj_P E (d + 1) 289 73 [.ref 205, .int v1, .int 0] [] (mj_hw w c h hl) = mj_den mj_P E (d + 1) 289 102 [.ref 205, .int v1, .int (nI 600)] [] (mj_hw w c h' hl) ∧ wi_R s 940 h0 h' := by
  have key := lp_ex (fun k (g : mj_HI) => mj_den mj_P E (d + 1) 289 73 [.ref 205, .int v1, .int (nI k)] [] (mj_hw w c g hl)) (fun k g => wi_R s (340 + 1 * k) h0 g) 600 (fun k g hk hg => ?_) h (by simpa using q)
  · obtain ⟨g, e, hg⟩ := key
    refine ⟨g, Eq.trans e ?_, hg⟩
    show mj_den mj_P E (d + 1) 289 73 [.ref 205, .int v1, .int (nI 600)] [] (mj_hw w c g hl) = _
    rw [q289_73]
    simp (disch := omega) only [↓reduceIte, Bool.false_eq_true, eq_self, mj_10, mj_01, mj_n10, mj_0n1, mj_1n1, mj_n11, mj_bi_some, mj_bv_some, mj_bj_some, mj_br_some, mj_r0, mj_r1, mj_q0, mj_q1, mj_b01, mj_q2, if_true, if_false, mj_it, mj_if, true_and, and_true, false_and, and_false, not_true_eq_false, not_false_eq_true, true_or, or_true, false_or, or_false, mj_nIle, mj_nIlt, mj_nIeq, mj_nI0, mj_nIc, mj_nIadd, mj_nIs, mj_ez, mj_ze, mj_eo, mj_ltz, mj_lez, mj_zlt, mj_olt, mj_lto, mj_leo, mj_ole, mj_nIn, mj_nnI, nl_2, nl_3, nl_4, nl_5, nl_6, nl_7, nl_8, nl_9, nl_10, nl_11, nl_12, nl_13, nl_14, nl_15, nl_16, nl_17, nl_18, nl_19, nl_20, nl_21, nl_22, nl_23, nl_24, nl_25, nl_26, nl_27, nl_28, nl_29, nl_30, nl_32, nl_33, nl_34, nl_35, nl_36, nl_37, nl_38, nl_39, nl_40, nl_41, nl_42, nl_43, nl_44, nl_45, nl_46, nl_47, nl_48, nl_49, nl_50, nl_51, nl_52, nl_53, nl_54, nl_55, nl_56, nl_57, nl_58, nl_59, nl_60, nl_61, nl_62, nl_64, nl_65, nl_66, nl_67, nl_68, nl_69, nl_92, nl_97, nl_99, nl_100, nl_122, nl_127, nl_128, nl_131, nl_132, nl_150, nl_200, nl_255, nl_256, nl_300, nl_342, nl_380, nl_381, nl_400, nl_401, nl_420, nl_500, nl_600, nl_800, nl_999, nl_1000, nl_1023, nl_1024, nl_1200, nl_2048, nl_2100, nl_4096, nl_9999, nl_10000, nl_10240, nl_999999, nl_1000000, if_pos, if_neg]
  · have t0 : wi_src (340 + 1 * k) = (213, k) := by
      have := (wi_sp (a := 213) (k := k) (decide_eq_true (Or.inl (show k < iv_ml 213 by unfold iv_ml; omega)))).1
      unfold wi_pos at this
      simp only at this
      first | exact this | (rw [← this]; congr 1; omega)
    obtain ⟨x1, h1, e1, f1, q1⟩ := s_swap (E := E) (d := d) (w := w) (c := c) (hl := hl) (by omega) t0 hg
    have e1 := e1 _ rfl
    refine ⟨_, ?_, show wi_R s (340 + 1 * (k + 1)) h0 _ from (show 340 + 1 * k + 1 = 340 + 1 * (k + 1) by omega) ▸ q1⟩
    show mj_den mj_P E (d + 1) 289 73 [.ref 205, .int v1, .int (nI k)] [] (mj_hw w c g hl) = _
    rw [q289_73]
    simp (disch := omega) only [↓reduceIte, Bool.false_eq_true, eq_self, mj_10, mj_01, mj_n10, mj_0n1, mj_1n1, mj_n11, mj_bi_some, mj_bv_some, mj_bj_some, mj_br_some, mj_r0, mj_r1, mj_q0, mj_q1, mj_b01, mj_q2, if_true, if_false, mj_it, mj_if, true_and, and_true, false_and, and_false, not_true_eq_false, not_false_eq_true, true_or, or_true, false_or, or_false, mj_nIle, mj_nIlt, mj_nIeq, mj_nI0, mj_nIc, mj_nIadd, mj_nIs, mj_ez, mj_ze, mj_eo, mj_ltz, mj_lez, mj_zlt, mj_olt, mj_lto, mj_leo, mj_ole, mj_nIn, mj_nnI, nl_2, nl_3, nl_4, nl_5, nl_6, nl_7, nl_8, nl_9, nl_10, nl_11, nl_12, nl_13, nl_14, nl_15, nl_16, nl_17, nl_18, nl_19, nl_20, nl_21, nl_22, nl_23, nl_24, nl_25, nl_26, nl_27, nl_28, nl_29, nl_30, nl_32, nl_33, nl_34, nl_35, nl_36, nl_37, nl_38, nl_39, nl_40, nl_41, nl_42, nl_43, nl_44, nl_45, nl_46, nl_47, nl_48, nl_49, nl_50, nl_51, nl_52, nl_53, nl_54, nl_55, nl_56, nl_57, nl_58, nl_59, nl_60, nl_61, nl_62, nl_64, nl_65, nl_66, nl_67, nl_68, nl_69, nl_92, nl_97, nl_99, nl_100, nl_122, nl_127, nl_128, nl_131, nl_132, nl_150, nl_200, nl_255, nl_256, nl_300, nl_342, nl_380, nl_381, nl_400, nl_401, nl_420, nl_500, nl_600, nl_800, nl_999, nl_1000, nl_1023, nl_1024, nl_1200, nl_2048, nl_2100, nl_4096, nl_9999, nl_10000, nl_10240, nl_999999, nl_1000000, if_pos, if_neg, q289_95, e1]
