/-! image: the class copies its world, the reference its cells one by one -/
def wi_in (L : List (Nat × Nat × Nat)) (j k : Nat) : Bool := L.any (fun p => decide (p.1 = j ∧ p.2.1 ≤ k ∧ k < p.2.2))
theorem wi_in_app (L L' : List (Nat × Nat × Nat)) (j k : Nat) : wi_in (L ++ L') j k = (wi_in L j k || wi_in L' j k) := List.any_append
def wi_C (x y : Nat) (L : List (Nat × Nat × Nat)) (h h' : mj_HI) : Prop := ∀ a k, h' a k = if x ≤ a ∧ a ≤ x + 44 ∧ wi_in L (a - x) k = true then h (a - x + y) k else h a k
theorem wi_C_t {x y : Nat} {L L' : List (Nat × Nat × Nat)} {h h' h'' : mj_HI} (hxy : x + 44 < y ∨ y + 44 < x) (p : wi_C x y L h h') (q : wi_C x y L' h' h'') : wi_C x y (L ++ L') h h'' := by
  intro a k
  rw [q a k]
  by_cases hr : x ≤ a ∧ a ≤ x + 44
  · have e : h' (a - x + y) k = h (a - x + y) k := by
      rw [p]; exact if_neg (fun z => by omega)
    by_cases h2 : wi_in L' (a - x) k = true
    · rw [if_pos ⟨hr.1, hr.2, h2⟩, e, if_pos ⟨hr.1, hr.2, by rw [wi_in_app, h2, Bool.or_true]⟩]
    · rw [if_neg (fun z => h2 z.2.2), p a k]
      have : wi_in (L ++ L') (a - x) k = wi_in L (a - x) k := by
        rw [wi_in_app]; rw [Bool.not_eq_true] at h2; rw [h2, Bool.or_false]
      rw [this]
  · rw [if_neg (fun z => hr ⟨z.1, z.2.1⟩), p a k, if_neg (fun z => hr ⟨z.1, z.2.1⟩), if_neg (fun z => hr ⟨z.1, z.2.1⟩)]
theorem wi_in1 {J lo hi j k : Nat} : wi_in [(J, lo, hi)] j k = true ↔ J = j ∧ lo ≤ k ∧ k < hi := by
  unfold wi_in; simp
theorem wi_C_row {x y J n a b : Nat} {h : mj_HI} (ha : a = y + J) (hb : b = x + J) (hJ : J ≤ 44) : wi_C x y [(J, 0, n)] h (mj_ur h b (fun k => if k < n then h a k else h b k)) := by
  intro e k
  subst ha hb
  by_cases he : e = x + J
  · subst he
    rw [mj_ur_eq]
    by_cases hk : k < n
    · rw [if_pos (show k < n from hk), if_pos ⟨by omega, by omega, wi_in1.mpr ⟨by omega, by omega, hk⟩⟩, show x + J - x + y = y + J by omega]
    · rw [if_neg hk, if_neg (fun z => hk (wi_in1.mp z.2.2).2.2)]
  · rw [mj_ur_row he, if_neg (fun z => he (by have := (wi_in1.mp z.2.2).1; omega))]
theorem wi_C_cell {x y J K a b : Nat} {h : mj_HI} (ha : a = y + J) (hb : b = x + J) (hJ : J ≤ 44) : wi_C x y [(J, K, K + 1)] h (mj_u h b K (h a K)) := by
  intro e k
  subst ha hb
  by_cases he : e = x + J ∧ k = K
  · obtain ⟨rfl, rfl⟩ := he
    rw [mj_u_eq, if_pos ⟨by omega, by omega, wi_in1.mpr ⟨by omega, by omega, by omega⟩⟩, show x + J - x + y = y + J by omega]
  · rw [mj_u_pt (by omega), if_neg (fun z => he (by have := wi_in1.mp z.2.2; omega))]
theorem s_crw {E : mj_E} {d w c : Nat} {hl : Nat → Nat → Int64} {x y J n a b : Nat} (h : mj_HI) (ha : a = y + J) (hb : b = x + J) (hJ : J ≤ 44) (ka : mj_nth (mj_CL c) a = (100, n)) (kb : mj_nth (mj_CL c) b = (100, n)) (hn : n < 65536) : ∃ h', mj_dc mj_P E (d + 2) 149 [.ref a, .ref b] (mj_hw w c h hl) = some (none, mj_hw w c h' hl) ∧ wi_C x y [(J, 0, n)] h h' := ⟨_, s_crow ka kb hn, wi_C_row ha hb hJ⟩
def wi_LR : List (Nat × Nat × Nat) := [(1, 0, 7), (2, 0, 10), (3, 0, 10), (4, 0, 10), (5, 0, 10), (6, 0, 10), (7, 0, 10), (8, 0, 10), (9, 0, 12), (10, 0, 12), (11, 0, 12)]

theorem s_w22_12_46 {E : mj_E} {d w c : Nat} {hi : mj_HI} {hl : Nat → Nat → Int64} : ∃ h', mj_dc mj_P E (d + 3) 22 [.ref 58, .ref 13] (mj_hw w c hi hl) = some (none, mj_hw w c h' hl) ∧ wi_C 46 1 [(12, 0, 1), (12, 1, 2), (13, 0, 16), (14, 0, 16), (15, 0, 16), (16, 0, 16), (17, 0, 400), (18, 0, 400)] hi h' := by
  obtain ⟨g1, e1, c1⟩ := s_crw (E := E) (d := d) (w := w) (c := c) (hl := hl) (x := 46) (y := 1) (J := 13) (n := 16) (a := 14) (b := 59) (mj_u (mj_u hi 58 0 (hi 13 0)) 58 1 ((mj_u hi 58 0 (hi 13 0)) 13 1)) rfl rfl (by omega) rfl rfl (by omega)
  obtain ⟨g2, e2, c2⟩ := s_crw (E := E) (d := d) (w := w) (c := c) (hl := hl) (x := 46) (y := 1) (J := 14) (n := 16) (a := 15) (b := 60) g1 rfl rfl (by omega) rfl rfl (by omega)
  obtain ⟨g3, e3, c3⟩ := s_crw (E := E) (d := d) (w := w) (c := c) (hl := hl) (x := 46) (y := 1) (J := 15) (n := 16) (a := 16) (b := 61) g2 rfl rfl (by omega) rfl rfl (by omega)
  obtain ⟨g4, e4, c4⟩ := s_crw (E := E) (d := d) (w := w) (c := c) (hl := hl) (x := 46) (y := 1) (J := 16) (n := 16) (a := 17) (b := 62) g3 rfl rfl (by omega) rfl rfl (by omega)
  obtain ⟨g5, e5, c5⟩ := s_crw (E := E) (d := d) (w := w) (c := c) (hl := hl) (x := 46) (y := 1) (J := 17) (n := 400) (a := 18) (b := 63) g4 rfl rfl (by omega) rfl rfl (by omega)
  obtain ⟨g6, e6, c6⟩ := s_crw (E := E) (d := d) (w := w) (c := c) (hl := hl) (x := 46) (y := 1) (J := 18) (n := 400) (a := 19) (b := 64) g5 rfl rfl (by omega) rfl rfl (by omega)
  simp (disch := omega) only [mj_u_pt] at e1
  refine ⟨g6, ?_, (wi_C_t (by omega) (wi_C_t (by omega) (wi_C_t (by omega) (wi_C_t (by omega) (wi_C_t (by omega) (wi_C_t (by omega) (wi_C_t (by omega) (wi_C_cell (x := 46) (y := 1) (J := 12) (K := 0) (a := 13) (b := 58) (h := hi) rfl rfl (by omega)) (wi_C_cell (x := 46) (y := 1) (J := 12) (K := 1) (a := 13) (b := 58) (h := (mj_u hi 58 0 (hi 13 0))) rfl rfl (by omega))) c1) c2) c3) c4) c5) c6)⟩
  simp (disch := omega) only [q22_0, q22_0_1, q22_0_2, q22_27, q22_27_1, q22_27_2, q22_38, q22_38_1, q22_38_2, q22_49, q22_49_1, q22_49_2, q22_60, q22_60_1, q22_60_2, q22_71, q22_71_1, q22_71_2, q22_82, q22_82_1, q22_82_2, e22, e22_1, e22_2, mj_bv_some, mj_u_pt, e1, e2, e3, e4, e5, e6]
theorem s_w25_21_46 {E : mj_E} {d w c : Nat} {hi : mj_HI} {hl : Nat → Nat → Int64} : ∃ h', mj_dc mj_P E (d + 3) 25 [.ref 67, .ref 22] (mj_hw w c hi hl) = some (none, mj_hw w c h' hl) ∧ wi_C 46 1 [(21, 0, 1), (22, 0, 16), (23, 0, 16), (24, 0, 16)] hi h' := by
  obtain ⟨g1, e1, c1⟩ := s_crw (E := E) (d := d) (w := w) (c := c) (hl := hl) (x := 46) (y := 1) (J := 22) (n := 16) (a := 23) (b := 68) (mj_u hi 67 0 (hi 22 0)) rfl rfl (by omega) rfl rfl (by omega)
  obtain ⟨g2, e2, c2⟩ := s_crw (E := E) (d := d) (w := w) (c := c) (hl := hl) (x := 46) (y := 1) (J := 23) (n := 16) (a := 24) (b := 69) g1 rfl rfl (by omega) rfl rfl (by omega)
  obtain ⟨g3, e3, c3⟩ := s_crw (E := E) (d := d) (w := w) (c := c) (hl := hl) (x := 46) (y := 1) (J := 24) (n := 16) (a := 25) (b := 70) g2 rfl rfl (by omega) rfl rfl (by omega)
  refine ⟨g3, ?_, (wi_C_t (by omega) (wi_C_t (by omega) (wi_C_t (by omega) (wi_C_cell (x := 46) (y := 1) (J := 21) (K := 0) (a := 22) (b := 67) (h := hi) rfl rfl (by omega)) c1) c2) c3)⟩
  simp (disch := omega) only [q25_0, q25_0_1, q25_0_2, q25_0_3, q25_0_4, q25_0_5, q25_0_6, q25_0_7, q25_0_8, q25_19, q25_19_1, q25_19_2, q25_19_3, q25_19_4, q25_19_5, q25_19_6, q25_19_7, q25_19_8, q25_30, q25_30_1, q25_30_2, q25_30_3, q25_30_4, q25_30_5, q25_30_6, q25_30_7, q25_30_8, q25_41, q25_41_1, q25_41_2, q25_41_3, q25_41_4, q25_41_5, q25_41_6, q25_41_7, q25_41_8, e25, e25_1, e25_2, e25_3, e25_4, e25_5, e25_6, e25_7, e25_8, mj_bv_some, mj_u_pt, e1, e2, e3]
theorem s_w25_25_46 {E : mj_E} {d w c : Nat} {hi : mj_HI} {hl : Nat → Nat → Int64} : ∃ h', mj_dc mj_P E (d + 3) 25 [.ref 71, .ref 26] (mj_hw w c hi hl) = some (none, mj_hw w c h' hl) ∧ wi_C 46 1 [(25, 0, 1), (26, 0, 16), (27, 0, 16), (28, 0, 16)] hi h' := by
  obtain ⟨g1, e1, c1⟩ := s_crw (E := E) (d := d) (w := w) (c := c) (hl := hl) (x := 46) (y := 1) (J := 26) (n := 16) (a := 27) (b := 72) (mj_u hi 71 0 (hi 26 0)) rfl rfl (by omega) rfl rfl (by omega)
  obtain ⟨g2, e2, c2⟩ := s_crw (E := E) (d := d) (w := w) (c := c) (hl := hl) (x := 46) (y := 1) (J := 27) (n := 16) (a := 28) (b := 73) g1 rfl rfl (by omega) rfl rfl (by omega)
  obtain ⟨g3, e3, c3⟩ := s_crw (E := E) (d := d) (w := w) (c := c) (hl := hl) (x := 46) (y := 1) (J := 28) (n := 16) (a := 29) (b := 74) g2 rfl rfl (by omega) rfl rfl (by omega)
  refine ⟨g3, ?_, (wi_C_t (by omega) (wi_C_t (by omega) (wi_C_t (by omega) (wi_C_cell (x := 46) (y := 1) (J := 25) (K := 0) (a := 26) (b := 71) (h := hi) rfl rfl (by omega)) c1) c2) c3)⟩
  simp (disch := omega) only [q25_0, q25_0_1, q25_0_2, q25_0_3, q25_0_4, q25_0_5, q25_0_6, q25_0_7, q25_0_8, q25_19, q25_19_1, q25_19_2, q25_19_3, q25_19_4, q25_19_5, q25_19_6, q25_19_7, q25_19_8, q25_30, q25_30_1, q25_30_2, q25_30_3, q25_30_4, q25_30_5, q25_30_6, q25_30_7, q25_30_8, q25_41, q25_41_1, q25_41_2, q25_41_3, q25_41_4, q25_41_5, q25_41_6, q25_41_7, q25_41_8, e25, e25_1, e25_2, e25_3, e25_4, e25_5, e25_6, e25_7, e25_8, mj_bv_some, mj_u_pt, e1, e2, e3]
theorem s_w25_29_46 {E : mj_E} {d w c : Nat} {hi : mj_HI} {hl : Nat → Nat → Int64} : ∃ h', mj_dc mj_P E (d + 3) 25 [.ref 75, .ref 30] (mj_hw w c hi hl) = some (none, mj_hw w c h' hl) ∧ wi_C 46 1 [(29, 0, 1), (30, 0, 16), (31, 0, 16), (32, 0, 16)] hi h' := by
  obtain ⟨g1, e1, c1⟩ := s_crw (E := E) (d := d) (w := w) (c := c) (hl := hl) (x := 46) (y := 1) (J := 30) (n := 16) (a := 31) (b := 76) (mj_u hi 75 0 (hi 30 0)) rfl rfl (by omega) rfl rfl (by omega)
  obtain ⟨g2, e2, c2⟩ := s_crw (E := E) (d := d) (w := w) (c := c) (hl := hl) (x := 46) (y := 1) (J := 31) (n := 16) (a := 32) (b := 77) g1 rfl rfl (by omega) rfl rfl (by omega)
  obtain ⟨g3, e3, c3⟩ := s_crw (E := E) (d := d) (w := w) (c := c) (hl := hl) (x := 46) (y := 1) (J := 32) (n := 16) (a := 33) (b := 78) g2 rfl rfl (by omega) rfl rfl (by omega)
  refine ⟨g3, ?_, (wi_C_t (by omega) (wi_C_t (by omega) (wi_C_t (by omega) (wi_C_cell (x := 46) (y := 1) (J := 29) (K := 0) (a := 30) (b := 75) (h := hi) rfl rfl (by omega)) c1) c2) c3)⟩
  simp (disch := omega) only [q25_0, q25_0_1, q25_0_2, q25_0_3, q25_0_4, q25_0_5, q25_0_6, q25_0_7, q25_0_8, q25_19, q25_19_1, q25_19_2, q25_19_3, q25_19_4, q25_19_5, q25_19_6, q25_19_7, q25_19_8, q25_30, q25_30_1, q25_30_2, q25_30_3, q25_30_4, q25_30_5, q25_30_6, q25_30_7, q25_30_8, q25_41, q25_41_1, q25_41_2, q25_41_3, q25_41_4, q25_41_5, q25_41_6, q25_41_7, q25_41_8, e25, e25_1, e25_2, e25_3, e25_4, e25_5, e25_6, e25_7, e25_8, mj_bv_some, mj_u_pt, e1, e2, e3]
theorem s_w99_33_46 {E : mj_E} {d w c : Nat} {hi : mj_HI} {hl : Nat → Nat → Int64} : ∃ h', mj_dc mj_P E (d + 3) 99 [.ref 79, .ref 34] (mj_hw w c hi hl) = some (none, mj_hw w c h' hl) ∧ wi_C 46 1 [(33, 0, 1), (34, 0, 16), (35, 0, 16), (33, 3, 4), (36, 0, 6), (37, 0, 8), (33, 6, 7), (38, 0, 7), (39, 0, 7), (33, 9, 10), (40, 0, 12)] hi h' := by
  obtain ⟨g1, e1, c1⟩ := s_crw (E := E) (d := d) (w := w) (c := c) (hl := hl) (x := 46) (y := 1) (J := 34) (n := 16) (a := 35) (b := 80) (mj_u hi 79 0 (hi 34 0)) rfl rfl (by omega) rfl rfl (by omega)
  obtain ⟨g2, e2, c2⟩ := s_crw (E := E) (d := d) (w := w) (c := c) (hl := hl) (x := 46) (y := 1) (J := 35) (n := 16) (a := 36) (b := 81) g1 rfl rfl (by omega) rfl rfl (by omega)
  obtain ⟨g3, e3, c3⟩ := s_crw (E := E) (d := d) (w := w) (c := c) (hl := hl) (x := 46) (y := 1) (J := 36) (n := 6) (a := 37) (b := 82) (mj_u g2 79 3 (g2 34 3)) rfl rfl (by omega) rfl rfl (by omega)
  obtain ⟨g4, e4, c4⟩ := s_crw (E := E) (d := d) (w := w) (c := c) (hl := hl) (x := 46) (y := 1) (J := 37) (n := 8) (a := 38) (b := 83) g3 rfl rfl (by omega) rfl rfl (by omega)
  obtain ⟨g5, e5, c5⟩ := s_crw (E := E) (d := d) (w := w) (c := c) (hl := hl) (x := 46) (y := 1) (J := 38) (n := 7) (a := 39) (b := 84) (mj_u g4 79 6 (g4 34 6)) rfl rfl (by omega) rfl rfl (by omega)
  obtain ⟨g6, e6, c6⟩ := s_crw (E := E) (d := d) (w := w) (c := c) (hl := hl) (x := 46) (y := 1) (J := 39) (n := 7) (a := 40) (b := 85) g5 rfl rfl (by omega) rfl rfl (by omega)
  obtain ⟨g7, e7, c7⟩ := s_crw (E := E) (d := d) (w := w) (c := c) (hl := hl) (x := 46) (y := 1) (J := 40) (n := 12) (a := 41) (b := 86) (mj_u g6 79 9 (g6 34 9)) rfl rfl (by omega) rfl rfl (by omega)
  refine ⟨g7, ?_, (wi_C_t (by omega) (wi_C_t (by omega) (wi_C_t (by omega) (wi_C_t (by omega) (wi_C_t (by omega) (wi_C_t (by omega) (wi_C_t (by omega) (wi_C_t (by omega) (wi_C_t (by omega) (wi_C_t (by omega) (wi_C_cell (x := 46) (y := 1) (J := 33) (K := 0) (a := 34) (b := 79) (h := hi) rfl rfl (by omega)) c1) c2) (wi_C_cell (x := 46) (y := 1) (J := 33) (K := 3) (a := 34) (b := 79) (h := g2) rfl rfl (by omega))) c3) c4) (wi_C_cell (x := 46) (y := 1) (J := 33) (K := 6) (a := 34) (b := 79) (h := g4) rfl rfl (by omega))) c5) c6) (wi_C_cell (x := 46) (y := 1) (J := 33) (K := 9) (a := 34) (b := 79) (h := g6) rfl rfl (by omega))) c7)⟩
  simp (disch := omega) only [q99_0, q99_0_1, q99_19, q99_19_1, q99_30, q99_30_1, q99_49, q99_49_1, q99_60, q99_60_1, q99_79, q99_79_1, q99_90, q99_90_1, q99_109, q99_109_1, e99, e99_1, mj_bv_some, mj_u_pt, e1, e2, e3, e4, e5, e6, e7]
theorem s_w22_12_1 {E : mj_E} {d w c : Nat} {hi : mj_HI} {hl : Nat → Nat → Int64} : ∃ h', mj_dc mj_P E (d + 3) 22 [.ref 13, .ref 58] (mj_hw w c hi hl) = some (none, mj_hw w c h' hl) ∧ wi_C 1 46 [(12, 0, 1), (12, 1, 2), (13, 0, 16), (14, 0, 16), (15, 0, 16), (16, 0, 16), (17, 0, 400), (18, 0, 400)] hi h' := by
  obtain ⟨g1, e1, c1⟩ := s_crw (E := E) (d := d) (w := w) (c := c) (hl := hl) (x := 1) (y := 46) (J := 13) (n := 16) (a := 59) (b := 14) (mj_u (mj_u hi 13 0 (hi 58 0)) 13 1 ((mj_u hi 13 0 (hi 58 0)) 58 1)) rfl rfl (by omega) rfl rfl (by omega)
  obtain ⟨g2, e2, c2⟩ := s_crw (E := E) (d := d) (w := w) (c := c) (hl := hl) (x := 1) (y := 46) (J := 14) (n := 16) (a := 60) (b := 15) g1 rfl rfl (by omega) rfl rfl (by omega)
  obtain ⟨g3, e3, c3⟩ := s_crw (E := E) (d := d) (w := w) (c := c) (hl := hl) (x := 1) (y := 46) (J := 15) (n := 16) (a := 61) (b := 16) g2 rfl rfl (by omega) rfl rfl (by omega)
  obtain ⟨g4, e4, c4⟩ := s_crw (E := E) (d := d) (w := w) (c := c) (hl := hl) (x := 1) (y := 46) (J := 16) (n := 16) (a := 62) (b := 17) g3 rfl rfl (by omega) rfl rfl (by omega)
  obtain ⟨g5, e5, c5⟩ := s_crw (E := E) (d := d) (w := w) (c := c) (hl := hl) (x := 1) (y := 46) (J := 17) (n := 400) (a := 63) (b := 18) g4 rfl rfl (by omega) rfl rfl (by omega)
  obtain ⟨g6, e6, c6⟩ := s_crw (E := E) (d := d) (w := w) (c := c) (hl := hl) (x := 1) (y := 46) (J := 18) (n := 400) (a := 64) (b := 19) g5 rfl rfl (by omega) rfl rfl (by omega)
  simp (disch := omega) only [mj_u_pt] at e1
  refine ⟨g6, ?_, (wi_C_t (by omega) (wi_C_t (by omega) (wi_C_t (by omega) (wi_C_t (by omega) (wi_C_t (by omega) (wi_C_t (by omega) (wi_C_t (by omega) (wi_C_cell (x := 1) (y := 46) (J := 12) (K := 0) (a := 58) (b := 13) (h := hi) rfl rfl (by omega)) (wi_C_cell (x := 1) (y := 46) (J := 12) (K := 1) (a := 58) (b := 13) (h := (mj_u hi 13 0 (hi 58 0))) rfl rfl (by omega))) c1) c2) c3) c4) c5) c6)⟩
  simp (disch := omega) only [q22_0, q22_0_1, q22_0_2, q22_27, q22_27_1, q22_27_2, q22_38, q22_38_1, q22_38_2, q22_49, q22_49_1, q22_49_2, q22_60, q22_60_1, q22_60_2, q22_71, q22_71_1, q22_71_2, q22_82, q22_82_1, q22_82_2, e22, e22_1, e22_2, mj_bv_some, mj_u_pt, e1, e2, e3, e4, e5, e6]
theorem s_w25_21_1 {E : mj_E} {d w c : Nat} {hi : mj_HI} {hl : Nat → Nat → Int64} : ∃ h', mj_dc mj_P E (d + 3) 25 [.ref 22, .ref 67] (mj_hw w c hi hl) = some (none, mj_hw w c h' hl) ∧ wi_C 1 46 [(21, 0, 1), (22, 0, 16), (23, 0, 16), (24, 0, 16)] hi h' := by
  obtain ⟨g1, e1, c1⟩ := s_crw (E := E) (d := d) (w := w) (c := c) (hl := hl) (x := 1) (y := 46) (J := 22) (n := 16) (a := 68) (b := 23) (mj_u hi 22 0 (hi 67 0)) rfl rfl (by omega) rfl rfl (by omega)
  obtain ⟨g2, e2, c2⟩ := s_crw (E := E) (d := d) (w := w) (c := c) (hl := hl) (x := 1) (y := 46) (J := 23) (n := 16) (a := 69) (b := 24) g1 rfl rfl (by omega) rfl rfl (by omega)
  obtain ⟨g3, e3, c3⟩ := s_crw (E := E) (d := d) (w := w) (c := c) (hl := hl) (x := 1) (y := 46) (J := 24) (n := 16) (a := 70) (b := 25) g2 rfl rfl (by omega) rfl rfl (by omega)
  refine ⟨g3, ?_, (wi_C_t (by omega) (wi_C_t (by omega) (wi_C_t (by omega) (wi_C_cell (x := 1) (y := 46) (J := 21) (K := 0) (a := 67) (b := 22) (h := hi) rfl rfl (by omega)) c1) c2) c3)⟩
  simp (disch := omega) only [q25_0, q25_0_1, q25_0_2, q25_0_3, q25_0_4, q25_0_5, q25_0_6, q25_0_7, q25_0_8, q25_19, q25_19_1, q25_19_2, q25_19_3, q25_19_4, q25_19_5, q25_19_6, q25_19_7, q25_19_8, q25_30, q25_30_1, q25_30_2, q25_30_3, q25_30_4, q25_30_5, q25_30_6, q25_30_7, q25_30_8, q25_41, q25_41_1, q25_41_2, q25_41_3, q25_41_4, q25_41_5, q25_41_6, q25_41_7, q25_41_8, e25, e25_1, e25_2, e25_3, e25_4, e25_5, e25_6, e25_7, e25_8, mj_bv_some, mj_u_pt, e1, e2, e3]
theorem s_w25_25_1 {E : mj_E} {d w c : Nat} {hi : mj_HI} {hl : Nat → Nat → Int64} : ∃ h', mj_dc mj_P E (d + 3) 25 [.ref 26, .ref 71] (mj_hw w c hi hl) = some (none, mj_hw w c h' hl) ∧ wi_C 1 46 [(25, 0, 1), (26, 0, 16), (27, 0, 16), (28, 0, 16)] hi h' := by
  obtain ⟨g1, e1, c1⟩ := s_crw (E := E) (d := d) (w := w) (c := c) (hl := hl) (x := 1) (y := 46) (J := 26) (n := 16) (a := 72) (b := 27) (mj_u hi 26 0 (hi 71 0)) rfl rfl (by omega) rfl rfl (by omega)
  obtain ⟨g2, e2, c2⟩ := s_crw (E := E) (d := d) (w := w) (c := c) (hl := hl) (x := 1) (y := 46) (J := 27) (n := 16) (a := 73) (b := 28) g1 rfl rfl (by omega) rfl rfl (by omega)
  obtain ⟨g3, e3, c3⟩ := s_crw (E := E) (d := d) (w := w) (c := c) (hl := hl) (x := 1) (y := 46) (J := 28) (n := 16) (a := 74) (b := 29) g2 rfl rfl (by omega) rfl rfl (by omega)
  refine ⟨g3, ?_, (wi_C_t (by omega) (wi_C_t (by omega) (wi_C_t (by omega) (wi_C_cell (x := 1) (y := 46) (J := 25) (K := 0) (a := 71) (b := 26) (h := hi) rfl rfl (by omega)) c1) c2) c3)⟩
  simp (disch := omega) only [q25_0, q25_0_1, q25_0_2, q25_0_3, q25_0_4, q25_0_5, q25_0_6, q25_0_7, q25_0_8, q25_19, q25_19_1, q25_19_2, q25_19_3, q25_19_4, q25_19_5, q25_19_6, q25_19_7, q25_19_8, q25_30, q25_30_1, q25_30_2, q25_30_3, q25_30_4, q25_30_5, q25_30_6, q25_30_7, q25_30_8, q25_41, q25_41_1, q25_41_2, q25_41_3, q25_41_4, q25_41_5, q25_41_6, q25_41_7, q25_41_8, e25, e25_1, e25_2, e25_3, e25_4, e25_5, e25_6, e25_7, e25_8, mj_bv_some, mj_u_pt, e1, e2, e3]
theorem s_w25_29_1 {E : mj_E} {d w c : Nat} {hi : mj_HI} {hl : Nat → Nat → Int64} : ∃ h', mj_dc mj_P E (d + 3) 25 [.ref 30, .ref 75] (mj_hw w c hi hl) = some (none, mj_hw w c h' hl) ∧ wi_C 1 46 [(29, 0, 1), (30, 0, 16), (31, 0, 16), (32, 0, 16)] hi h' := by
  obtain ⟨g1, e1, c1⟩ := s_crw (E := E) (d := d) (w := w) (c := c) (hl := hl) (x := 1) (y := 46) (J := 30) (n := 16) (a := 76) (b := 31) (mj_u hi 30 0 (hi 75 0)) rfl rfl (by omega) rfl rfl (by omega)
  obtain ⟨g2, e2, c2⟩ := s_crw (E := E) (d := d) (w := w) (c := c) (hl := hl) (x := 1) (y := 46) (J := 31) (n := 16) (a := 77) (b := 32) g1 rfl rfl (by omega) rfl rfl (by omega)
  obtain ⟨g3, e3, c3⟩ := s_crw (E := E) (d := d) (w := w) (c := c) (hl := hl) (x := 1) (y := 46) (J := 32) (n := 16) (a := 78) (b := 33) g2 rfl rfl (by omega) rfl rfl (by omega)
  refine ⟨g3, ?_, (wi_C_t (by omega) (wi_C_t (by omega) (wi_C_t (by omega) (wi_C_cell (x := 1) (y := 46) (J := 29) (K := 0) (a := 75) (b := 30) (h := hi) rfl rfl (by omega)) c1) c2) c3)⟩
  simp (disch := omega) only [q25_0, q25_0_1, q25_0_2, q25_0_3, q25_0_4, q25_0_5, q25_0_6, q25_0_7, q25_0_8, q25_19, q25_19_1, q25_19_2, q25_19_3, q25_19_4, q25_19_5, q25_19_6, q25_19_7, q25_19_8, q25_30, q25_30_1, q25_30_2, q25_30_3, q25_30_4, q25_30_5, q25_30_6, q25_30_7, q25_30_8, q25_41, q25_41_1, q25_41_2, q25_41_3, q25_41_4, q25_41_5, q25_41_6, q25_41_7, q25_41_8, e25, e25_1, e25_2, e25_3, e25_4, e25_5, e25_6, e25_7, e25_8, mj_bv_some, mj_u_pt, e1, e2, e3]
theorem s_w99_33_1 {E : mj_E} {d w c : Nat} {hi : mj_HI} {hl : Nat → Nat → Int64} : ∃ h', mj_dc mj_P E (d + 3) 99 [.ref 34, .ref 79] (mj_hw w c hi hl) = some (none, mj_hw w c h' hl) ∧ wi_C 1 46 [(33, 0, 1), (34, 0, 16), (35, 0, 16), (33, 3, 4), (36, 0, 6), (37, 0, 8), (33, 6, 7), (38, 0, 7), (39, 0, 7), (33, 9, 10), (40, 0, 12)] hi h' := by
  obtain ⟨g1, e1, c1⟩ := s_crw (E := E) (d := d) (w := w) (c := c) (hl := hl) (x := 1) (y := 46) (J := 34) (n := 16) (a := 80) (b := 35) (mj_u hi 34 0 (hi 79 0)) rfl rfl (by omega) rfl rfl (by omega)
  obtain ⟨g2, e2, c2⟩ := s_crw (E := E) (d := d) (w := w) (c := c) (hl := hl) (x := 1) (y := 46) (J := 35) (n := 16) (a := 81) (b := 36) g1 rfl rfl (by omega) rfl rfl (by omega)
  obtain ⟨g3, e3, c3⟩ := s_crw (E := E) (d := d) (w := w) (c := c) (hl := hl) (x := 1) (y := 46) (J := 36) (n := 6) (a := 82) (b := 37) (mj_u g2 34 3 (g2 79 3)) rfl rfl (by omega) rfl rfl (by omega)
  obtain ⟨g4, e4, c4⟩ := s_crw (E := E) (d := d) (w := w) (c := c) (hl := hl) (x := 1) (y := 46) (J := 37) (n := 8) (a := 83) (b := 38) g3 rfl rfl (by omega) rfl rfl (by omega)
  obtain ⟨g5, e5, c5⟩ := s_crw (E := E) (d := d) (w := w) (c := c) (hl := hl) (x := 1) (y := 46) (J := 38) (n := 7) (a := 84) (b := 39) (mj_u g4 34 6 (g4 79 6)) rfl rfl (by omega) rfl rfl (by omega)
  obtain ⟨g6, e6, c6⟩ := s_crw (E := E) (d := d) (w := w) (c := c) (hl := hl) (x := 1) (y := 46) (J := 39) (n := 7) (a := 85) (b := 40) g5 rfl rfl (by omega) rfl rfl (by omega)
  obtain ⟨g7, e7, c7⟩ := s_crw (E := E) (d := d) (w := w) (c := c) (hl := hl) (x := 1) (y := 46) (J := 40) (n := 12) (a := 86) (b := 41) (mj_u g6 34 9 (g6 79 9)) rfl rfl (by omega) rfl rfl (by omega)
  refine ⟨g7, ?_, (wi_C_t (by omega) (wi_C_t (by omega) (wi_C_t (by omega) (wi_C_t (by omega) (wi_C_t (by omega) (wi_C_t (by omega) (wi_C_t (by omega) (wi_C_t (by omega) (wi_C_t (by omega) (wi_C_t (by omega) (wi_C_cell (x := 1) (y := 46) (J := 33) (K := 0) (a := 79) (b := 34) (h := hi) rfl rfl (by omega)) c1) c2) (wi_C_cell (x := 1) (y := 46) (J := 33) (K := 3) (a := 79) (b := 34) (h := g2) rfl rfl (by omega))) c3) c4) (wi_C_cell (x := 1) (y := 46) (J := 33) (K := 6) (a := 79) (b := 34) (h := g4) rfl rfl (by omega))) c5) c6) (wi_C_cell (x := 1) (y := 46) (J := 33) (K := 9) (a := 79) (b := 34) (h := g6) rfl rfl (by omega))) c7)⟩
  simp (disch := omega) only [q99_0, q99_0_1, q99_19, q99_19_1, q99_30, q99_30_1, q99_49, q99_49_1, q99_60, q99_60_1, q99_79, q99_79_1, q99_90, q99_90_1, q99_109, q99_109_1, e99, e99_1, mj_bv_some, mj_u_pt, e1, e2, e3, e4, e5, e6, e7]
theorem s_wroom_46 {E : mj_E} {d w c : Nat} {hi : mj_HI} {hl : Nat → Nat → Int64} : ∃ h', mj_dc mj_P E (d + 3) 83 [.ref 47, .ref 2] (mj_hw w c hi hl) = some (none, mj_hw w c h' hl) ∧ (∀ j k, 1 ≤ j → j ≤ 11 → k < iv_wl j → h' (46 + j) k = hi (1 + j) k) ∧ ∀ a k, (a < 46 + 1 ∨ 46 + 11 < a) → h' a k = hi a k := by
  obtain ⟨h', e, e1, e2⟩ := s_rcopy (E := E) (d := d) (w := w) (c := c) (hi := hi) (hl := hl) (mj_Rm47 w c) (mj_Rm2 w c) (by omega)
  refine ⟨h', e, fun j k h1 h2 hk => ?_, fun a k ha => e2 a k (by omega)⟩
  have := e1 (j - 1) k (by omega) (by rw [show 1 + (j - 1) = j by omega]; exact hk)
  rw [show 47 + (j - 1) = 46 + j by omega, show 2 + (j - 1) = 1 + j by omega] at this
  exact this
theorem s_wroom_1 {E : mj_E} {d w c : Nat} {hi : mj_HI} {hl : Nat → Nat → Int64} : ∃ h', mj_dc mj_P E (d + 3) 83 [.ref 2, .ref 47] (mj_hw w c hi hl) = some (none, mj_hw w c h' hl) ∧ (∀ j k, 1 ≤ j → j ≤ 11 → k < iv_wl j → h' (1 + j) k = hi (46 + j) k) ∧ ∀ a k, (a < 1 + 1 ∨ 1 + 11 < a) → h' a k = hi a k := by
  obtain ⟨h', e, e1, e2⟩ := s_rcopy (E := E) (d := d) (w := w) (c := c) (hi := hi) (hl := hl) (mj_Rm2 w c) (mj_Rm47 w c) (by omega)
  refine ⟨h', e, fun j k h1 h2 hk => ?_, fun a k ha => e2 a k (by omega)⟩
  have := e1 (j - 1) k (by omega) (by rw [show 1 + (j - 1) = j by omega]; exact hk)
  rw [show 2 + (j - 1) = 1 + j by omega, show 47 + (j - 1) = 46 + j by omega] at this
  exact this
def wi_L : List (Nat × Nat × Nat) := [(12, 0, 1), (12, 1, 2), (13, 0, 16), (14, 0, 16), (15, 0, 16), (16, 0, 16), (17, 0, 400), (18, 0, 400)] ++ [(21, 0, 1), (22, 0, 16), (23, 0, 16), (24, 0, 16)] ++ [(25, 0, 1), (26, 0, 16), (27, 0, 16), (28, 0, 16)] ++ [(29, 0, 1), (30, 0, 16), (31, 0, 16), (32, 0, 16)] ++ [(33, 0, 1), (34, 0, 16), (35, 0, 16), (33, 3, 4), (36, 0, 6), (37, 0, 8), (33, 6, 7), (38, 0, 7), (39, 0, 7), (33, 9, 10), (40, 0, 12)] ++ [(41, 0, 150)] ++ [(42, 0, 150)] ++ [(43, 0, 150)] ++ [(44, 0, 150)]
theorem wi_L_pw {j k : Nat} (h : iv_pw j k = true) : j ≤ 44 ∧ (wi_in wi_L j k = true ∨ (1 ≤ j ∧ j ≤ 11 ∧ k < iv_wl j)) := by
  have h := of_decide_eq_true h
  obtain ⟨h1, h2⟩ := h
  have hw := h1
  unfold iv_wl at h1
  split at h1
  all_goals first
    | omega
    | exact ⟨by omega, Or.inr ⟨by omega, by omega, hw⟩⟩
    | (refine ⟨by omega, Or.inl ?_⟩
       unfold wi_in wi_L
       simp
       omega)
theorem wi_L_no {j k : Nat} (h : wi_in wi_L j k = true) : 12 ≤ j := by
  unfold wi_in wi_L at h
  simp at h
  omega
theorem s_wcopy_46 {E : mj_E} {d w c : Nat} {hi : mj_HI} {hl : Nat → Nat → Int64} : ∃ h', mj_dc mj_P E (d + 4) 105 [.ref 46, .ref 1] (mj_hw w c hi hl) = some (none, mj_hw w c h' hl) ∧ (∀ j k, iv_pw j k = true → h' (46 + j) k = hi (1 + j) k) ∧ ∀ a k, (a < 46 ∨ 90 < a) → h' a k = hi a k := by
  obtain ⟨g0, e0, r0, f0⟩ := s_wroom_46 (E := E) (d := d) (w := w) (c := c) (hi := hi) (hl := hl)
  obtain ⟨g1, e1, c1⟩ := s_w22_12_46 (E := E) (d := d) (w := w) (c := c) (hi := g0) (hl := hl)
  obtain ⟨g2, e2, c2⟩ := s_w25_21_46 (E := E) (d := d) (w := w) (c := c) (hi := g1) (hl := hl)
  obtain ⟨g3, e3, c3⟩ := s_w25_25_46 (E := E) (d := d) (w := w) (c := c) (hi := g2) (hl := hl)
  obtain ⟨g4, e4, c4⟩ := s_w25_29_46 (E := E) (d := d) (w := w) (c := c) (hi := g3) (hl := hl)
  obtain ⟨g5, e5, c5⟩ := s_w99_33_46 (E := E) (d := d) (w := w) (c := c) (hi := g4) (hl := hl)
  obtain ⟨g6, e6, c6⟩ := s_crw (E := E) (d := d + 1) (w := w) (c := c) (hl := hl) (x := 46) (y := 1) (J := 41) (n := 150) (a := 42) (b := 87) g5 rfl rfl (by omega) rfl rfl (by omega)
  obtain ⟨g7, e7, c7⟩ := s_crw (E := E) (d := d + 1) (w := w) (c := c) (hl := hl) (x := 46) (y := 1) (J := 42) (n := 150) (a := 43) (b := 88) g6 rfl rfl (by omega) rfl rfl (by omega)
  obtain ⟨g8, e8, c8⟩ := s_crw (E := E) (d := d + 1) (w := w) (c := c) (hl := hl) (x := 46) (y := 1) (J := 43) (n := 150) (a := 44) (b := 89) g7 rfl rfl (by omega) rfl rfl (by omega)
  obtain ⟨g9, e9, c9⟩ := s_crw (E := E) (d := d + 1) (w := w) (c := c) (hl := hl) (x := 46) (y := 1) (J := 44) (n := 150) (a := 45) (b := 90) g8 rfl rfl (by omega) rfl rfl (by omega)
  have C : wi_C 46 1 wi_L g0 g9 := (wi_C_t (by omega) (wi_C_t (by omega) (wi_C_t (by omega) (wi_C_t (by omega) (wi_C_t (by omega) (wi_C_t (by omega) (wi_C_t (by omega) (wi_C_t (by omega) c1 c2) c3) c4) c5) c6) c7) c8) c9)
  refine ⟨g9, ?_, fun j k hj => ?_, fun a k ha => ?_⟩
  · simp (disch := omega) only [q105_0, q105_0_1, q105_11, q105_11_1, q105_22, q105_22_1, q105_33, q105_33_1, q105_44, q105_44_1, q105_55, q105_55_1, q105_66, q105_66_1, q105_77, q105_77_1, q105_88, q105_88_1, q105_99, q105_99_1, q105_110, q105_110_1, e105, e105_1, mj_bv_some, e0, e1, e2, e3, e4, e5, e6, e7, e8, e9]
  · obtain ⟨h1, h2⟩ := wi_L_pw hj
    rw [C (46 + j) k, show 46 + j - 46 = j by omega]
    by_cases h3 : wi_in wi_L j k = true
    · have := wi_L_no h3
      rw [if_pos ⟨by omega, by omega, h3⟩, f0 _ _ (by omega), Nat.add_comm]
    · rw [if_neg (fun z => h3 z.2.2)]
      rcases h2 with h2 | h2
      · exact absurd h2 h3
      · exact r0 j k h2.1 h2.2.1 h2.2.2
  · rw [C a k, if_neg (fun z => by omega), f0 _ _ (by omega)]
theorem s_wcopy_1 {E : mj_E} {d w c : Nat} {hi : mj_HI} {hl : Nat → Nat → Int64} : ∃ h', mj_dc mj_P E (d + 4) 105 [.ref 1, .ref 46] (mj_hw w c hi hl) = some (none, mj_hw w c h' hl) ∧ (∀ j k, iv_pw j k = true → h' (1 + j) k = hi (46 + j) k) ∧ ∀ a k, (a < 1 ∨ 45 < a) → h' a k = hi a k := by
  obtain ⟨g0, e0, r0, f0⟩ := s_wroom_1 (E := E) (d := d) (w := w) (c := c) (hi := hi) (hl := hl)
  obtain ⟨g1, e1, c1⟩ := s_w22_12_1 (E := E) (d := d) (w := w) (c := c) (hi := g0) (hl := hl)
  obtain ⟨g2, e2, c2⟩ := s_w25_21_1 (E := E) (d := d) (w := w) (c := c) (hi := g1) (hl := hl)
  obtain ⟨g3, e3, c3⟩ := s_w25_25_1 (E := E) (d := d) (w := w) (c := c) (hi := g2) (hl := hl)
  obtain ⟨g4, e4, c4⟩ := s_w25_29_1 (E := E) (d := d) (w := w) (c := c) (hi := g3) (hl := hl)
  obtain ⟨g5, e5, c5⟩ := s_w99_33_1 (E := E) (d := d) (w := w) (c := c) (hi := g4) (hl := hl)
  obtain ⟨g6, e6, c6⟩ := s_crw (E := E) (d := d + 1) (w := w) (c := c) (hl := hl) (x := 1) (y := 46) (J := 41) (n := 150) (a := 87) (b := 42) g5 rfl rfl (by omega) rfl rfl (by omega)
  obtain ⟨g7, e7, c7⟩ := s_crw (E := E) (d := d + 1) (w := w) (c := c) (hl := hl) (x := 1) (y := 46) (J := 42) (n := 150) (a := 88) (b := 43) g6 rfl rfl (by omega) rfl rfl (by omega)
  obtain ⟨g8, e8, c8⟩ := s_crw (E := E) (d := d + 1) (w := w) (c := c) (hl := hl) (x := 1) (y := 46) (J := 43) (n := 150) (a := 89) (b := 44) g7 rfl rfl (by omega) rfl rfl (by omega)
  obtain ⟨g9, e9, c9⟩ := s_crw (E := E) (d := d + 1) (w := w) (c := c) (hl := hl) (x := 1) (y := 46) (J := 44) (n := 150) (a := 90) (b := 45) g8 rfl rfl (by omega) rfl rfl (by omega)
  have C : wi_C 1 46 wi_L g0 g9 := (wi_C_t (by omega) (wi_C_t (by omega) (wi_C_t (by omega) (wi_C_t (by omega) (wi_C_t (by omega) (wi_C_t (by omega) (wi_C_t (by omega) (wi_C_t (by omega) c1 c2) c3) c4) c5) c6) c7) c8) c9)
  refine ⟨g9, ?_, fun j k hj => ?_, fun a k ha => ?_⟩
  · simp (disch := omega) only [q105_0, q105_0_1, q105_11, q105_11_1, q105_22, q105_22_1, q105_33, q105_33_1, q105_44, q105_44_1, q105_55, q105_55_1, q105_66, q105_66_1, q105_77, q105_77_1, q105_88, q105_88_1, q105_99, q105_99_1, q105_110, q105_110_1, e105, e105_1, mj_bv_some, e0, e1, e2, e3, e4, e5, e6, e7, e8, e9]
  · obtain ⟨h1, h2⟩ := wi_L_pw hj
    rw [C (1 + j) k, show 1 + j - 1 = j by omega]
    by_cases h3 : wi_in wi_L j k = true
    · have := wi_L_no h3
      rw [if_pos ⟨by omega, by omega, h3⟩, f0 _ _ (by omega), Nat.add_comm]
    · rw [if_neg (fun z => h3 z.2.2)]
      rcases h2 with h2 | h2
      · exact absurd h2 h3
      · exact r0 j k h2.1 h2.2.1 h2.2.2
  · rw [C a k, if_neg (fun z => by omega), f0 _ _ (by omega)]
