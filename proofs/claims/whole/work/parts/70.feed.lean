theorem iv_pm_r {a k : Nat} (p : iv_pm a k = true) : 205 ≤ a ∧ a ≤ 241 := by
  unfold iv_pm at p
  have p := of_decide_eq_true p
  rcases p with p | p
  · unfold iv_ml at p
    split at p <;> omega
  · omega
theorem wf_b (x : Int32) : ∃ y, y < 256 ∧ x &&& 255 = nI y ∧ x.toInt8.toInt32.toInt8.toInt32 = (nI y).toInt8.toInt32 := by
  obtain ⟨y, h1, h2⟩ := pk_andE x (m := 255) 8 (by decide)
  refine ⟨y, h1, h2, ?_⟩
  rw [← h2, Int32.toInt8_and, show (255 : Int32).toInt8 = -1 by decide, Int8.and_neg_one, Int8.toInt8_toInt32]
def wf_x (v : Int32) : Nat → Int32
  | 0 => v >>> ((24 : Int32) &&& 31)
  | 1 => v >>> ((16 : Int32) &&& 31)
  | 2 => v >>> ((8 : Int32) &&& 31)
  | _ => v >>> ((0 : Int32) &&& 31)
def wf_P (a0 k0 a1 : Nat) (f : Int32 → Int32) (t : Nat) (v : Int32) (h h' : mj_HI) : Prop := (∀ a k, a ≠ a1 → ¬ (a = a0 ∧ k = k0) → h' a k = h a k) ∧ h' a0 k0 = nI (t + 4) ∧ (∀ k, k < t → h' a1 k = h a1 k) ∧ ∀ i, i < 4 → h' a1 (t + i) = f (wf_x v i)
def wf_f (x : Int32) : Int32 := x.toInt8.toInt32.toInt8.toInt32
def wf_m (x : Int32) : Int32 := x &&& 255
def wf_1 (a0 k0 a1 : Nat) (t : Nat) (b : Int32) (h : mj_HI) : mj_HI := mj_u (mj_u h a1 t b) a0 k0 (nI (t + 1))
theorem wf_1e (a0 k0 a1 t : Nat) (b : Int32) (h : mj_HI) : wf_1 a0 k0 a1 t b h a0 k0 = nI (t + 1) := mj_u_eq ..
theorem wf_1P {a0 k0 a1 : Nat} (h01 : a0 ≠ a1) (f : Int32 → Int32) (t : Nat) (v : Int32) (h : mj_HI) : wf_P a0 k0 a1 f t v h (wf_1 a0 k0 a1 (t + 3) (f (wf_x v 3)) (wf_1 a0 k0 a1 (t + 2) (f (wf_x v 2)) (wf_1 a0 k0 a1 (t + 1) (f (wf_x v 1)) (wf_1 a0 k0 a1 t (f (wf_x v 0)) h)))) := by
  unfold wf_1
  refine ⟨fun a k h1 h2 => ?_, ?_, fun k hk => ?_, fun i hi => ?_⟩
  · simp (disch := omega) only [mj_u_pt]
  · rw [mj_u_eq]
  · simp (disch := omega) only [mj_u_pt]
  · rcases (by omega : i = 0 ∨ i = 1 ∨ i = 2 ∨ i = 3) with rfl | rfl | rfl | rfl
    all_goals simp (disch := omega) only [mj_u_pt, mj_u_eq, Nat.add_zero]
theorem s_tk47 {E : mj_E} {d w c : Nat} {hi : mj_HI} {hl : Nat → Nat → Int64} {t : Nat} {v s : Int32} (ht : t < 400) (hs : ¬ s < 0) (h : hi 159 0 = nI t) : mj_den mj_P E d 47 3 [.ref 159, .int v, .int s] [] (mj_hw w c hi hl) = mj_den mj_P E d 47 3 [.ref 159, .int v, .int (s + -8)] [] (mj_hw w c (wf_1 159 0 173 t (wf_f (v >>> (s &&& 31))) hi) hl) := by
  unfold wf_1 wf_f
  rw [q47_3]
  simp (disch := omega) only [hs, h, ↓reduceIte, Bool.false_eq_true, eq_self, mj_10, mj_01, mj_n10, mj_0n1, mj_1n1, mj_n11, mj_bi_some, mj_bv_some, mj_bj_some, mj_br_some, mj_r0, mj_r1, mj_q0, mj_q1, mj_b01, mj_q2, if_true, if_false, mj_it, mj_if, true_and, and_true, false_and, and_false, not_true_eq_false, not_false_eq_true, true_or, or_true, false_or, or_false, mj_nIle, mj_nIlt, mj_nIeq, mj_nI0, mj_nIc, mj_nIadd, mj_nIs, mj_ez, mj_ze, mj_eo, mj_ltz, mj_lez, mj_zlt, mj_olt, mj_lto, mj_leo, mj_ole, mj_nIn, mj_nnI, nl_2, nl_3, nl_4, nl_5, nl_6, nl_7, nl_8, nl_9, nl_10, nl_11, nl_12, nl_13, nl_14, nl_15, nl_16, nl_17, nl_18, nl_19, nl_20, nl_21, nl_22, nl_23, nl_24, nl_25, nl_26, nl_27, nl_28, nl_29, nl_30, nl_32, nl_33, nl_34, nl_35, nl_36, nl_37, nl_38, nl_39, nl_40, nl_41, nl_42, nl_43, nl_44, nl_45, nl_46, nl_47, nl_48, nl_49, nl_50, nl_51, nl_52, nl_53, nl_54, nl_55, nl_56, nl_57, nl_58, nl_59, nl_60, nl_61, nl_62, nl_64, nl_65, nl_66, nl_67, nl_68, nl_69, nl_92, nl_97, nl_99, nl_100, nl_122, nl_127, nl_128, nl_131, nl_132, nl_150, nl_200, nl_255, nl_256, nl_300, nl_342, nl_380, nl_381, nl_400, nl_401, nl_420, nl_500, nl_600, nl_800, nl_999, nl_1000, nl_1023, nl_1024, nl_1200, nl_2048, nl_2100, nl_4096, nl_9999, nl_10000, nl_10240, nl_999999, nl_1000000, if_pos, if_neg, q47_40]
theorem s_tk174 {E : mj_E} {d w c : Nat} {hi : mj_HI} {hl : Nat → Nat → Int64} {t : Nat} {v s : Int32} (ht : t < 400) (hs : ¬ s < 0) (h : hi 205 14 = nI t) : mj_den mj_P E d 174 3 [.ref 205, .int v, .int s] [] (mj_hw w c hi hl) = mj_den mj_P E d 174 3 [.ref 205, .int v, .int (s + -8)] [] (mj_hw w c (wf_1 205 14 214 t (wf_m (v >>> (s &&& 31))) hi) hl) := by
  unfold wf_1 wf_m
  rw [q174_3]
  simp (disch := omega) only [hs, h, ↓reduceIte, Bool.false_eq_true, eq_self, mj_10, mj_01, mj_n10, mj_0n1, mj_1n1, mj_n11, mj_bi_some, mj_bv_some, mj_bj_some, mj_br_some, mj_r0, mj_r1, mj_q0, mj_q1, mj_b01, mj_q2, if_true, if_false, mj_it, mj_if, true_and, and_true, false_and, and_false, not_true_eq_false, not_false_eq_true, true_or, or_true, false_or, or_false, mj_nIle, mj_nIlt, mj_nIeq, mj_nI0, mj_nIc, mj_nIadd, mj_nIs, mj_ez, mj_ze, mj_eo, mj_ltz, mj_lez, mj_zlt, mj_olt, mj_lto, mj_leo, mj_ole, mj_nIn, mj_nnI, nl_2, nl_3, nl_4, nl_5, nl_6, nl_7, nl_8, nl_9, nl_10, nl_11, nl_12, nl_13, nl_14, nl_15, nl_16, nl_17, nl_18, nl_19, nl_20, nl_21, nl_22, nl_23, nl_24, nl_25, nl_26, nl_27, nl_28, nl_29, nl_30, nl_32, nl_33, nl_34, nl_35, nl_36, nl_37, nl_38, nl_39, nl_40, nl_41, nl_42, nl_43, nl_44, nl_45, nl_46, nl_47, nl_48, nl_49, nl_50, nl_51, nl_52, nl_53, nl_54, nl_55, nl_56, nl_57, nl_58, nl_59, nl_60, nl_61, nl_62, nl_64, nl_65, nl_66, nl_67, nl_68, nl_69, nl_92, nl_97, nl_99, nl_100, nl_122, nl_127, nl_128, nl_131, nl_132, nl_150, nl_200, nl_255, nl_256, nl_300, nl_342, nl_380, nl_381, nl_400, nl_401, nl_420, nl_500, nl_600, nl_800, nl_999, nl_1000, nl_1023, nl_1024, nl_1200, nl_2048, nl_2100, nl_4096, nl_9999, nl_10000, nl_10240, nl_999999, nl_1000000, if_pos, if_neg]
theorem s_take47 {E : mj_E} {d w c : Nat} {hi : mj_HI} {hl : Nat → Nat → Int64} {t : Nat} {v : Int32} (ht : t + 4 ≤ 400) (h : hi 159 0 = nI t) : ∃ h', mj_dc mj_P E (d + 1) 47 [.ref 159, .int v] (mj_hw w c hi hl) = some (none, mj_hw w c h' hl) ∧ wf_P 159 0 173 wf_f t v hi h' := by
  refine ⟨_, ?_, wf_1P (by omega) wf_f t v hi⟩
  rw [e47, q47_0, s_tk47 (t := t) (by omega) (by decide) h, show (24 : Int32) + -8 = 16 by decide, s_tk47 (t := t + 1) (by omega) (by decide) (wf_1e ..), show (16 : Int32) + -8 = 8 by decide, s_tk47 (t := t + 2) (by omega) (by decide) (wf_1e ..), show (8 : Int32) + -8 = 0 by decide, s_tk47 (t := t + 3) (by omega) (by decide) (wf_1e ..), show (0 : Int32) + -8 = -8 by decide, q47_3, if_pos (by decide), q47_46]
  rfl
theorem s_take174 {E : mj_E} {d w c : Nat} {hi : mj_HI} {hl : Nat → Nat → Int64} {t : Nat} {v : Int32} (ht : t + 4 ≤ 400) (h : hi 205 14 = nI t) : ∃ h', mj_dc mj_P E (d + 1) 174 [.ref 205, .int v] (mj_hw w c hi hl) = some (none, mj_hw w c h' hl) ∧ wf_P 205 14 214 wf_m t v hi h' := by
  refine ⟨_, ?_, wf_1P (by omega) wf_m t v hi⟩
  rw [e174, q174_0, s_tk174 (t := t) (by omega) (by decide) h, show (24 : Int32) + -8 = 16 by decide, s_tk174 (t := t + 1) (by omega) (by decide) (wf_1e ..), show (16 : Int32) + -8 = 8 by decide, s_tk174 (t := t + 2) (by omega) (by decide) (wf_1e ..), show (8 : Int32) + -8 = 0 by decide, s_tk174 (t := t + 3) (by omega) (by decide) (wf_1e ..), show (0 : Int32) + -8 = -8 by decide, q174_3, if_pos (by decide), q174_39]
  rfl
/-- one take more on both sides -/
def wf_J (t : Nat) (h m h' m' : mj_HI) : Prop := (∀ a k, a ≠ 173 → ¬ (a = 159 ∧ k = 0) → h' a k = h a k) ∧ (∀ a k, 205 ≤ a → a ≠ 214 → ¬ (a = 205 ∧ (k = 14 ∨ k = 0)) → m' a k = m a k) ∧ h' 159 0 = nI t ∧ m' 205 14 = nI t ∧ ∀ i, i < t → ∃ y, y < 256 ∧ m' 214 i = nI y ∧ h' 173 i = (nI y).toInt8.toInt32
theorem wf_Js {t : Nat} {h m h' m' h2 m2 : mj_HI} {v : Int32} (q : wf_J t h m h' m') (p1 : wf_P 159 0 173 wf_f t v h' h2) (p2 : wf_P 205 14 214 wf_m t v m' m2) : wf_J (t + 4) h m h2 m2 := by
  obtain ⟨a1, a2, a3, a4, a5⟩ := q
  obtain ⟨b1, b2, b3, b4⟩ := p1
  obtain ⟨c1, c2, c3, c4⟩ := p2
  refine ⟨fun a k x y => by rw [b1 a k x y, a1 a k x y], fun a k x0 x y => by rw [c1 a k x (by omega), a2 a k x0 x y], b2, c2, fun i hi => ?_⟩
  by_cases hit : i < t
  · obtain ⟨y, y1, y2, y3⟩ := a5 i hit
    exact ⟨y, y1, by rw [c3 i hit]; exact y2, by rw [b3 i hit]; exact y3⟩
  · obtain ⟨y, y1, y2, y3⟩ := wf_b (wf_x v (i - t))
    refine ⟨y, y1, ?_, ?_⟩
    · have := c4 (i - t) (by omega)
      rw [show t + (i - t) = i by omega] at this
      rw [this]; exact y2
    · have := b4 (i - t) (by omega)
      rw [show t + (i - t) = i by omega] at this
      rw [this]; exact y3
/-- only the text has changed -/
theorem iv_J_text {n l t : Nat} {h m h' m' : mj_HI} (q : iv_J n l h m) (ht : t ≤ 400) (p : wf_J t h m h' m') : iv_J n l h' m' := by
  obtain ⟨n10, l12, mN, mL⟩ := iv_Jn q
  obtain ⟨q1, q2, q3, ⟨t', r1, r2, r3, r4, r5, r6⟩, q5⟩ := id q
  obtain ⟨p1, p2, p3, p4, p5⟩ := p
  refine ⟨?_, ?_, ?_, ?_, ?_⟩
  · refine iv_IW_congr (fun j k hp => ?_) (fun a k hp => ?_) q1
    · have h2 := (of_decide_eq_true hp).1
      have h3 : j ≤ 44 := by
        by_cases h3 : j ≤ 44
        · exact h3
        · exfalso
          have : iv_wl j = 0 := by unfold iv_wl; split <;> first | omega | rfl
          omega
      exact p1 _ _ (by omega) (by omega)
    · have ha : a ≠ 214 := fun z => by
        subst z
        unfold iv_pm iv_ml at hp
        simp at hp
      have h5 : 205 ≤ a := (iv_pm_r hp).1
      refine p2 _ _ h5 ha (fun z => ?_)
      obtain ⟨z1, z2 | z2⟩ := z
      all_goals
        subst z1 z2
        unfold iv_pm iv_ml at hp
        simp at hp
  · obtain ⟨u, x, z1, z2, z3, z4, z5, z6⟩ := q2
    refine ⟨u, x, z1, z2, ?_, ?_, ?_, fun j hj => iv_IR_congr n10 l12 (fun i k _ _ => p1 _ _ (by omega) (by omega)) (fun _ _ => ?_) (fun a k _ _ _ => ?_) (z6 j hj)⟩
    all_goals (first | (rw [p1 _ _ (by omega) (by omega)]; assumption) | (rw [p2 _ _ (by omega) (by omega) (by omega)]; assumption) | exact p2 _ _ (by omega) (by omega) (by omega))
  · exact iv_G2_congr q3 (p1 _ _ (by omega) (by omega)) (fun a k _ _ => p1 _ _ (by omega) (by omega)) (p2 _ _ (by omega) (by omega) (by omega)) (fun k => p2 _ _ (by omega) (by omega) (by omega))
  · refine ⟨t, ht, p3, p4, ?_, ?_, p5⟩
    · rw [p1 _ _ (by omega) (by omega), p2 _ _ (by omega) (by omega) (by omega)]; exact r4
    · rw [p1 _ _ (by omega) (by omega), p2 _ _ (by omega) (by omega) (by omega)]; exact r5
  · exact iv_IConst_congr q5 (fun k => p1 _ _ (by omega) (by omega)) (p2 _ _ (by omega) (by omega) (by omega)) (fun k => p2 _ _ (by omega) (by omega) (by omega))
theorem cs_feed (v1 v2 v3 v4 v5 : Int32) : mj_Cs 115 175 [.int v1, .int v2, .int v3, .int v4, .int v5] := by
  intro E d w c hi hl hE hw hI
  obtain ⟨n, l, q⟩ := iv_I_un.mp hI
  obtain ⟨q1, q2, q3, ⟨t, r1, r2, r3, r4, r5, r6⟩, q5⟩ := id q
  by_cases ht : t ≤ 380
  · obtain ⟨h1, e1, p1⟩ := s_take47 (E := E) (d := d + 98) (w := w) (c := c) (hl := hl) (v := v1) (t := t) (by omega) r2
    obtain ⟨h2, e2, p2⟩ := s_take47 (E := E) (d := d + 98) (w := w) (c := c) (hl := hl) (v := v2) (t := t + 4) (by omega) p1.2.1
    obtain ⟨h3, e3, p3⟩ := s_take47 (E := E) (d := d + 98) (w := w) (c := c) (hl := hl) (v := v3) (t := t + 4 + 4) (by omega) p2.2.1
    obtain ⟨h4, e4, p4⟩ := s_take47 (E := E) (d := d + 98) (w := w) (c := c) (hl := hl) (v := v4) (t := t + 4 + 4 + 4) (by omega) p3.2.1
    obtain ⟨h5, e5, p5⟩ := s_take47 (E := E) (d := d + 98) (w := w) (c := c) (hl := hl) (v := v5) (t := t + 4 + 4 + 4 + 4) (by omega) p4.2.1
    have hX : ∀ a k, a ≠ 173 → ¬ (a = 159 ∧ k = 0) → h5 a k = hi a k := fun a k x y => by rw [p5.1 a k x y, p4.1 a k x y, p3.1 a k x y, p2.1 a k x y, p1.1 a k x y]
    have r3' : (mj_u h5 205 0 0) 205 14 = nI t := by rw [mj_u_pt (by omega), hX _ _ (by omega) (by omega)]; exact r3
    obtain ⟨m1, f1, g1⟩ := s_take174 (E := E) (d := d + 98) (w := w) (c := c) (hl := hl) (v := v1) (t := t) (by omega) r3'
    obtain ⟨m2, f2, g2⟩ := s_take174 (E := E) (d := d + 98) (w := w) (c := c) (hl := hl) (v := v2) (t := t + 4) (by omega) g1.2.1
    obtain ⟨m3, f3, g3⟩ := s_take174 (E := E) (d := d + 98) (w := w) (c := c) (hl := hl) (v := v3) (t := t + 4 + 4) (by omega) g2.2.1
    obtain ⟨m4, f4, g4⟩ := s_take174 (E := E) (d := d + 98) (w := w) (c := c) (hl := hl) (v := v4) (t := t + 4 + 4 + 4) (by omega) g3.2.1
    obtain ⟨m5, f5, g5⟩ := s_take174 (E := E) (d := d + 98) (w := w) (c := c) (hl := hl) (v := v5) (t := t + 4 + 4 + 4 + 4) (by omega) g4.2.1
    have hM : ∀ a k, a ≠ 214 → ¬ (a = 205 ∧ k = 14) → m5 a k = (mj_u h5 205 0 0) a k := fun a k x y => by rw [g5.1 a k x y, g4.1 a k x y, g3.1 a k x y, g2.1 a k x y, g1.1 a k x y]
    refine ⟨nI (t + 4 + 4 + 4 + 4 + 4), w, c, h5, hl, m5, ?_, ?_, ?_, hw⟩
    · have b : nI t + nI 20 = nI (t + 20) := mj_nIadd _ _
      simp (disch := omega) only [q115_0, q115_18, q115_26, q115_34, q115_42, q115_51, q115_60, e115, ↓reduceIte, Bool.false_eq_true, eq_self, mj_10, mj_01, mj_n10, mj_0n1, mj_1n1, mj_n11, mj_bi_some, mj_bv_some, mj_bj_some, mj_br_some, mj_r0, mj_r1, mj_q0, mj_q1, mj_b01, mj_q2, if_true, if_false, mj_it, mj_if, true_and, and_true, false_and, and_false, not_true_eq_false, not_false_eq_true, true_or, or_true, false_or, or_false, mj_nIle, mj_nIlt, mj_nIeq, mj_nI0, mj_nIc, mj_nIadd, mj_nIs, mj_ez, mj_ze, mj_eo, mj_ltz, mj_lez, mj_zlt, mj_olt, mj_lto, mj_leo, mj_ole, mj_nIn, mj_nnI, nl_2, nl_3, nl_4, nl_5, nl_6, nl_7, nl_8, nl_9, nl_10, nl_11, nl_12, nl_13, nl_14, nl_15, nl_16, nl_17, nl_18, nl_19, nl_20, nl_21, nl_22, nl_23, nl_24, nl_25, nl_26, nl_27, nl_28, nl_29, nl_30, nl_32, nl_33, nl_34, nl_35, nl_36, nl_37, nl_38, nl_39, nl_40, nl_41, nl_42, nl_43, nl_44, nl_45, nl_46, nl_47, nl_48, nl_49, nl_50, nl_51, nl_52, nl_53, nl_54, nl_55, nl_56, nl_57, nl_58, nl_59, nl_60, nl_61, nl_62, nl_64, nl_65, nl_66, nl_67, nl_68, nl_69, nl_92, nl_97, nl_99, nl_100, nl_122, nl_127, nl_128, nl_131, nl_132, nl_150, nl_200, nl_255, nl_256, nl_300, nl_342, nl_380, nl_381, nl_400, nl_401, nl_420, nl_500, nl_600, nl_800, nl_999, nl_1000, nl_1023, nl_1024, nl_1200, nl_2048, nl_2100, nl_4096, nl_9999, nl_10000, nl_10240, nl_999999, nl_1000000, if_pos, if_neg, r2, b, e1, e2, e3, e4, e5, p5.2.1]
    · have r3'' : h5 205 14 = nI t := by rw [hX _ _ (by omega) (by omega)]; exact r3
      simp (disch := omega) only [q175_0, q175_17, q175_22, q175_27, q175_32, q175_38, q175_44, e175, ↓reduceIte, Bool.false_eq_true, eq_self, mj_10, mj_01, mj_n10, mj_0n1, mj_1n1, mj_n11, mj_bi_some, mj_bv_some, mj_bj_some, mj_br_some, mj_r0, mj_r1, mj_q0, mj_q1, mj_b01, mj_q2, if_true, if_false, mj_it, mj_if, true_and, and_true, false_and, and_false, not_true_eq_false, not_false_eq_true, true_or, or_true, false_or, or_false, mj_nIle, mj_nIlt, mj_nIeq, mj_nI0, mj_nIc, mj_nIadd, mj_nIs, mj_ez, mj_ze, mj_eo, mj_ltz, mj_lez, mj_zlt, mj_olt, mj_lto, mj_leo, mj_ole, mj_nIn, mj_nnI, nl_2, nl_3, nl_4, nl_5, nl_6, nl_7, nl_8, nl_9, nl_10, nl_11, nl_12, nl_13, nl_14, nl_15, nl_16, nl_17, nl_18, nl_19, nl_20, nl_21, nl_22, nl_23, nl_24, nl_25, nl_26, nl_27, nl_28, nl_29, nl_30, nl_32, nl_33, nl_34, nl_35, nl_36, nl_37, nl_38, nl_39, nl_40, nl_41, nl_42, nl_43, nl_44, nl_45, nl_46, nl_47, nl_48, nl_49, nl_50, nl_51, nl_52, nl_53, nl_54, nl_55, nl_56, nl_57, nl_58, nl_59, nl_60, nl_61, nl_62, nl_64, nl_65, nl_66, nl_67, nl_68, nl_69, nl_92, nl_97, nl_99, nl_100, nl_122, nl_127, nl_128, nl_131, nl_132, nl_150, nl_200, nl_255, nl_256, nl_300, nl_342, nl_380, nl_381, nl_400, nl_401, nl_420, nl_500, nl_600, nl_800, nl_999, nl_1000, nl_1023, nl_1024, nl_1200, nl_2048, nl_2100, nl_4096, nl_9999, nl_10000, nl_10240, nl_999999, nl_1000000, if_pos, if_neg, r3'', f1, f2, f3, f4, f5, g5.2.1]
    · have j0 : wf_J t hi hi hi (mj_u h5 205 0 0) := ⟨fun _ _ _ _ => rfl, fun a k x y z => by rw [mj_u_pt (by omega), hX _ _ (by omega) (by omega)], r2, r3', fun i hi' => by rw [mj_u_pt (by omega), hX _ _ (by omega) (by omega)]; exact r6 i hi'⟩
      have j5 := wf_Js (wf_Js (wf_Js (wf_Js (wf_Js j0 p1 g1) p2 g2) p3 g3) p4 g4) p5 g5
      refine iv_two (h := h5) (m := m5) (fun a k h => by rw [hM _ _ (by omega) (by omega), mj_u_pt (by omega)]) (fun _ _ _ _ => rfl) (iv_J_text q (by omega) j5)
  · refine ⟨-1, w, c, hi, hl, mj_u hi 205 0 0, ?_, ?_, iv_told q, hw⟩
    · have b : nI t + nI 20 = nI (t + 20) := mj_nIadd _ _
      simp (disch := omega) only [q115_0, q115_18, q115_26, q115_34, q115_42, q115_51, q115_60, e115, ↓reduceIte, Bool.false_eq_true, eq_self, mj_10, mj_01, mj_n10, mj_0n1, mj_1n1, mj_n11, mj_bi_some, mj_bv_some, mj_bj_some, mj_br_some, mj_r0, mj_r1, mj_q0, mj_q1, mj_b01, mj_q2, if_true, if_false, mj_it, mj_if, true_and, and_true, false_and, and_false, not_true_eq_false, not_false_eq_true, true_or, or_true, false_or, or_false, mj_nIle, mj_nIlt, mj_nIeq, mj_nI0, mj_nIc, mj_nIadd, mj_nIs, mj_ez, mj_ze, mj_eo, mj_ltz, mj_lez, mj_zlt, mj_olt, mj_lto, mj_leo, mj_ole, mj_nIn, mj_nnI, nl_2, nl_3, nl_4, nl_5, nl_6, nl_7, nl_8, nl_9, nl_10, nl_11, nl_12, nl_13, nl_14, nl_15, nl_16, nl_17, nl_18, nl_19, nl_20, nl_21, nl_22, nl_23, nl_24, nl_25, nl_26, nl_27, nl_28, nl_29, nl_30, nl_32, nl_33, nl_34, nl_35, nl_36, nl_37, nl_38, nl_39, nl_40, nl_41, nl_42, nl_43, nl_44, nl_45, nl_46, nl_47, nl_48, nl_49, nl_50, nl_51, nl_52, nl_53, nl_54, nl_55, nl_56, nl_57, nl_58, nl_59, nl_60, nl_61, nl_62, nl_64, nl_65, nl_66, nl_67, nl_68, nl_69, nl_92, nl_97, nl_99, nl_100, nl_122, nl_127, nl_128, nl_131, nl_132, nl_150, nl_200, nl_255, nl_256, nl_300, nl_342, nl_380, nl_381, nl_400, nl_401, nl_420, nl_500, nl_600, nl_800, nl_999, nl_1000, nl_1023, nl_1024, nl_1200, nl_2048, nl_2100, nl_4096, nl_9999, nl_10000, nl_10240, nl_999999, nl_1000000, if_pos, if_neg, r2, b]
    · simp (disch := omega) only [q175_0, q175_17, q175_22, q175_27, q175_32, q175_38, q175_44, e175, ↓reduceIte, Bool.false_eq_true, eq_self, mj_10, mj_01, mj_n10, mj_0n1, mj_1n1, mj_n11, mj_bi_some, mj_bv_some, mj_bj_some, mj_br_some, mj_r0, mj_r1, mj_q0, mj_q1, mj_b01, mj_q2, if_true, if_false, mj_it, mj_if, true_and, and_true, false_and, and_false, not_true_eq_false, not_false_eq_true, true_or, or_true, false_or, or_false, mj_nIle, mj_nIlt, mj_nIeq, mj_nI0, mj_nIc, mj_nIadd, mj_nIs, mj_ez, mj_ze, mj_eo, mj_ltz, mj_lez, mj_zlt, mj_olt, mj_lto, mj_leo, mj_ole, mj_nIn, mj_nnI, nl_2, nl_3, nl_4, nl_5, nl_6, nl_7, nl_8, nl_9, nl_10, nl_11, nl_12, nl_13, nl_14, nl_15, nl_16, nl_17, nl_18, nl_19, nl_20, nl_21, nl_22, nl_23, nl_24, nl_25, nl_26, nl_27, nl_28, nl_29, nl_30, nl_32, nl_33, nl_34, nl_35, nl_36, nl_37, nl_38, nl_39, nl_40, nl_41, nl_42, nl_43, nl_44, nl_45, nl_46, nl_47, nl_48, nl_49, nl_50, nl_51, nl_52, nl_53, nl_54, nl_55, nl_56, nl_57, nl_58, nl_59, nl_60, nl_61, nl_62, nl_64, nl_65, nl_66, nl_67, nl_68, nl_69, nl_92, nl_97, nl_99, nl_100, nl_122, nl_127, nl_128, nl_131, nl_132, nl_150, nl_200, nl_255, nl_256, nl_300, nl_342, nl_380, nl_381, nl_400, nl_401, nl_420, nl_500, nl_600, nl_800, nl_999, nl_1000, nl_1023, nl_1024, nl_1200, nl_2048, nl_2100, nl_4096, nl_9999, nl_10000, nl_10240, nl_999999, nl_1000000, if_pos, if_neg, r3]
