/-! a law's codes: what a stack of values holds behind them -/
def wv_b (op a b : Int32) : Int32 :=
  if op = 11 then a + b else if op = 12 then a - b else if op = 13 then a * b else if op = 15 then (if b ≤ a then 0 else 1) else if op = 16 then (if ¬ a = b then 0 else 1) else if op = 17 then (if a ≤ b then 0 else 1) else if op = 19 then a &&& b else a ||| b
def wv_1 (st : List Int32) (f : Int32 → Int32) : List Int32 := match st with | a :: r => f a :: r | [] => []
def wv_2 (st : List Int32) (f : Int32 → Int32 → Int32) : List Int32 := match st with | b :: a :: r => f a b :: r | r => r
def wv_op (val : Nat → Int32) (op arg : Int32) (st : List Int32) : List Int32 :=
  if 0 ≤ op ∧ op ≤ 10 then (if op = 10 then arg else val op.toNatClampNeg) :: st
  else if op = 18 then wv_1 st (fun a => 1 - a)
  else if op = 14 then wv_1 st (fun a => a / arg)
  else wv_2 st (wv_b op)
def wv_ok : List Bool → List Int32 → Prop
  | [], [] => True
  | b :: ts, x :: st => (b = true → x = 0 ∨ x = 1) ∧ wv_ok ts st
  | _, _ => False
def wv_at (f : Nat → Int32) : List Int32 → Prop
  | [] => True
  | x :: r => f r.length = x ∧ wv_at f r
theorem wv_at_congr {f g : Nat → Int32} : ∀ {st : List Int32}, (∀ k, k < st.length → g k = f k) → wv_at f st → wv_at g st
  | [], _, _ => trivial
  | _ :: r, h, q => ⟨(h r.length (by simp)).trans q.1, wv_at_congr (fun k hk => h k (by simp; omega)) q.2⟩
theorem wv_ok_len : ∀ {ts : List Bool} {st : List Int32}, wv_ok ts st → st.length = ts.length
  | [], [], _ => rfl
  | _ :: _, _ :: _, h => by simp only [List.length_cons]; rw [wv_ok_len h.2]
  | [], _ :: _, h => h.elim
  | _ :: _, [], h => h.elim
theorem wv_cases {op : Int32} {ts us : List Bool} (h : iv_ty op ts = some us) : (0 ≤ op ∧ op ≤ 10 ∧ ts.length < 32 ∧ us = false :: ts) ∨ (op = 18 ∧ ∃ r, ts = true :: r ∧ us = true :: r) ∨ (op = 14 ∧ ∃ r, ts = false :: r ∧ us = false :: r) ∨ ((op = 11 ∨ op = 12 ∨ op = 13) ∧ ∃ r, ts = false :: false :: r ∧ us = false :: r) ∨ ((op = 15 ∨ op = 16 ∨ op = 17) ∧ ∃ r, ts = false :: false :: r ∧ us = true :: r) ∨ ((op = 19 ∨ op = 20) ∧ ∃ r, ts = true :: true :: r ∧ us = true :: r) := by
  unfold iv_ty at h
  split at h
  · rename_i h1
    split at h
    · rename_i h2
      exact Or.inl ⟨h1.1, h1.2, h2, (Option.some.inj h).symm⟩
    · exact absurd h (by simp)
  · split at h
    · rename_i h1
      split at h
      · rename_i r
        exact Or.inr (Or.inl ⟨h1, r, rfl, (Option.some.inj h).symm⟩)
      · exact absurd h (by simp)
    · split at h
      · rename_i h1
        split at h
        · rename_i r
          exact Or.inr (Or.inr (Or.inl ⟨h1, r, rfl, (Option.some.inj h).symm⟩))
        · exact absurd h (by simp)
      · split at h
        · rename_i h1
          split at h
          · rename_i r
            exact Or.inr (Or.inr (Or.inr (Or.inl ⟨h1, r, rfl, (Option.some.inj h).symm⟩)))
          · exact absurd h (by simp)
        · split at h
          · rename_i h1
            split at h
            · rename_i r
              exact Or.inr (Or.inr (Or.inr (Or.inr (Or.inl ⟨h1, r, rfl, (Option.some.inj h).symm⟩))))
            · exact absurd h (by simp)
          · split at h
            · rename_i h1
              split at h
              · rename_i r
                exact Or.inr (Or.inr (Or.inr (Or.inr (Or.inr ⟨h1, r, rfl, (Option.some.inj h).symm⟩))))
              · exact absurd h (by simp)
            · exact absurd h (by simp)
theorem wv_i1 {ts : List Bool} {st : List Int32} {b : Bool} (h : wv_ok (b :: ts) st) : ∃ x r, st = x :: r ∧ (b = true → x = 0 ∨ x = 1) ∧ wv_ok ts r := by
  cases st with
  | nil => exact h.elim
  | cons x r => exact ⟨x, r, rfl, h.1, h.2⟩
theorem wv_i2 {ts : List Bool} {st : List Int32} {b b' : Bool} (h : wv_ok (b :: b' :: ts) st) : ∃ y x r, st = y :: x :: r ∧ (b = true → y = 0 ∨ y = 1) ∧ (b' = true → x = 0 ∨ x = 1) ∧ wv_ok ts r := by
  obtain ⟨y, s, rfl, h1, h2⟩ := wv_i1 h
  obtain ⟨x, r, rfl, h3, h4⟩ := wv_i1 h2
  exact ⟨y, x, r, rfl, h1, h3, h4⟩
theorem wv_01 (c : Prop) [Decidable c] : (if c then (0 : Int32) else 1) = 0 ∨ (if c then (0 : Int32) else 1) = 1 := by
  by_cases h : c
  · exact Or.inl (if_pos h)
  · exact Or.inr (if_neg h)
theorem wv_ok_op {val : Nat → Int32} {op arg : Int32} {ts us : List Bool} {st : List Int32} (h : iv_ty op ts = some us) (h32 : ts.length ≤ 32) (ho : wv_ok ts st) : wv_ok us (wv_op val op arg st) ∧ us.length ≤ 32 := by
  rcases wv_cases h with ⟨h1, h2, h3, rfl⟩ | ⟨rfl, r, rfl, rfl⟩ | ⟨rfl, r, rfl, rfl⟩ | ⟨h1, r, rfl, rfl⟩ | ⟨h1, r, rfl, rfl⟩ | ⟨h1, r, rfl, rfl⟩
  · unfold wv_op
    rw [if_pos ⟨h1, h2⟩]
    exact ⟨⟨fun z => absurd z (by decide), ho⟩, by simp only [List.length_cons]; omega⟩
  · obtain ⟨x, s, rfl, p1, p2⟩ := wv_i1 ho
    refine ⟨⟨fun _ => ?_, p2⟩, h32⟩
    rcases p1 rfl with rfl | rfl
    · exact Or.inr (by decide)
    · exact Or.inl (by decide)
  · obtain ⟨x, s, rfl, p1, p2⟩ := wv_i1 ho
    exact ⟨⟨fun z => absurd z (by decide), p2⟩, h32⟩
  · obtain ⟨y, x, s, rfl, p1, p2, p3⟩ := wv_i2 ho
    refine ⟨?_, by simp only [List.length_cons] at h32 ⊢; omega⟩
    rcases h1 with rfl | rfl | rfl
    all_goals exact ⟨fun z => absurd z (by decide), p3⟩
  · obtain ⟨y, x, s, rfl, p1, p2, p3⟩ := wv_i2 ho
    refine ⟨?_, by simp only [List.length_cons] at h32 ⊢; omega⟩
    rcases h1 with rfl | rfl | rfl
    all_goals exact ⟨fun _ => wv_01 _, p3⟩
  · obtain ⟨y, x, s, rfl, p1, p2, p3⟩ := wv_i2 ho
    refine ⟨?_, by simp only [List.length_cons] at h32 ⊢; omega⟩
    rcases p1 rfl with rfl | rfl <;> rcases p2 rfl with rfl | rfl <;> rcases h1 with rfl | rfl
    all_goals exact ⟨fun _ => by decide, p3⟩
theorem s_join {E : mj_E} {d w c : Nat} {hi : mj_HI} {hl : Nat → Nat → Int64} {op a b : Int32} (h : op = 11 ∨ op = 12 ∨ op = 13 ∨ op = 15 ∨ op = 16 ∨ op = 17 ∨ op = 19 ∨ op = 20) : mj_dc mj_P E (d + 1) 21 [.int op, .int a, .int b] (mj_hw w c hi hl) = some (some (.int (wv_b op a b)), mj_hw w c hi hl) := by
  rcases h with rfl | rfl | rfl | rfl | rfl | rfl | rfl | rfl
  · rw [e21, q21_0, show mj_sw 11 11 101 [52, 56, 60, 101, 64, 75, 86, 101, 97] = 52 from rfl, q21_52]; rfl
  · rw [e21, q21_0, show mj_sw 12 11 101 [52, 56, 60, 101, 64, 75, 86, 101, 97] = 56 from rfl, q21_56]; rfl
  · rw [e21, q21_0, show mj_sw 13 11 101 [52, 56, 60, 101, 64, 75, 86, 101, 97] = 60 from rfl, q21_60]; rfl
  · rw [e21, q21_0, show mj_sw 15 11 101 [52, 56, 60, 101, 64, 75, 86, 101, 97] = 64 from rfl, q21_64]
    show _ = some (some (Value.int (if b ≤ a then 0 else 1)), _)
    split
    · rw [q21_73, q21_74]
    · rw [q21_74]
  · rw [e21, q21_0, show mj_sw 16 11 101 [52, 56, 60, 101, 64, 75, 86, 101, 97] = 75 from rfl, q21_75]
    show _ = some (some (Value.int (if ¬ a = b then 0 else 1)), _)
    split
    · rw [q21_84, q21_85]
    · rw [q21_85]
  · rw [e21, q21_0, show mj_sw 17 11 101 [52, 56, 60, 101, 64, 75, 86, 101, 97] = 86 from rfl, q21_86]
    show _ = some (some (Value.int (if a ≤ b then 0 else 1)), _)
    split
    · rw [q21_95, q21_96]
    · rw [q21_96]
  · rw [e21, q21_0, show mj_sw 19 11 101 [52, 56, 60, 101, 64, 75, 86, 101, 97] = 97 from rfl, q21_97]; rfl
  · rw [e21, q21_0, show mj_sw 20 11 101 [52, 56, 60, 101, 64, 75, 86, 101, 97] = 101 from rfl, q21_101]; rfl
theorem s_v20 {E : mj_E} {d w c : Nat} {hi : mj_HI} {hl : Nat → Nat → Int64} {i e : Nat} {v1 : Int32} {u5 : Value} {st : List Int32} {ts us : List Bool} {val : Nat → Int32} (hie : i < e) (he : e ≤ 400) (ht : iv_ty (hi 18 i) ts = some us) (h32 : ts.length ≤ 32) (ho : wv_ok ts st) (ha : wv_at (hi 21) st) (h14 : hi 18 i = 14 → ¬ hi 19 i = 0) (hv : ∀ k, k < 10 → hi 20 k = val k) : ∃ hi' u5', mj_den mj_P E (d + 1) 20 5 [.ref 13, .int v1, .int (nI e), .int (nI st.length), .int (nI i), u5] [] (mj_hw w c hi hl) = mj_den mj_P E (d + 1) 20 5 [.ref 13, .int v1, .int (nI e), .int (nI (wv_op val (hi 18 i) (hi 19 i) st).length), .int (nI (i + 1)), u5'] [] (mj_hw w c hi' hl) ∧ wv_at (hi' 21) (wv_op val (hi 18 i) (hi 19 i) st) ∧ (∀ a k, a ≠ 21 → hi' a k = hi a k) := by
  have hlen := wv_ok_len ho
  have hpre : ∀ (o : Int32), (o < 0) = ¬ (0 ≤ o) := fun o => by rw [Int32.not_le]
  generalize hop : hi 18 i = op at ht h14 ⊢
  generalize harg : hi 19 i = arg at h14 ⊢
  rcases wv_cases ht with ⟨h1, h2, h3, rfl⟩ | ⟨rfl, r, rfl, rfl⟩ | ⟨rfl, r, rfl, rfl⟩ | ⟨h1, r, rfl, rfl⟩ | ⟨h1, r, rfl, rfl⟩ | ⟨h1, r, rfl, rfl⟩
  · have e1 : ¬ op < 0 := Int32.not_lt.mpr h1
    obtain ⟨o, hol, rfl⟩ := mj_ofn h1
    have ho10 : o ≤ 10 := by rw [show (10 : Int32) = nI 10 from rfl, mj_nIle hol (by omega)] at h2; exact h2
    have hw1 : wv_op val (nI o) arg st = (if o = 10 then arg else val o) :: st := by
      unfold wv_op
      rw [if_pos ⟨h1, h2⟩, mj_nIc hol]
      congr 1
      by_cases h : o = 10
      · subst h; rw [if_pos (rfl : (10 : Nat) = 10)]; exact if_pos rfl
      · rw [if_neg h, if_neg (by rw [show (10 : Int32) = nI 10 from rfl, mj_nIeq hol (by omega)]; exact h)]
    rw [hw1]
    by_cases h10 : o = 10
    · subst h10
      refine ⟨mj_u hi 21 st.length arg, .int (nI 10), ?_, ⟨by rw [mj_u_eq]; rfl, wv_at_congr (fun k hk => mj_u_pt (by omega)) ha⟩, fun a k h => mj_u_pt (by omega)⟩
      rw [g20_5]
      simp (disch := omega) only [↓reduceIte, Bool.false_eq_true, eq_self, mj_10, mj_01, mj_n10, mj_0n1, mj_1n1, mj_n11, mj_bi_some, mj_bv_some, mj_bj_some, mj_br_some, mj_r0, mj_r1, mj_q0, mj_q1, mj_b01, mj_q2, if_true, if_false, mj_it, mj_if, true_and, and_true, false_and, and_false, not_true_eq_false, not_false_eq_true, true_or, or_true, false_or, or_false, mj_nIle, mj_nIlt, mj_nIeq, mj_nI0, mj_nIc, mj_nIadd, mj_nIs, mj_ez, mj_ze, mj_eo, mj_ltz, mj_lez, mj_zlt, mj_olt, mj_lto, mj_leo, mj_ole, mj_nIn, mj_nnI, nl_2, nl_3, nl_4, nl_5, nl_6, nl_7, nl_8, nl_9, nl_10, nl_11, nl_12, nl_13, nl_14, nl_15, nl_16, nl_17, nl_18, nl_19, nl_20, nl_21, nl_22, nl_23, nl_24, nl_25, nl_26, nl_27, nl_28, nl_29, nl_30, nl_32, nl_33, nl_34, nl_35, nl_36, nl_37, nl_38, nl_39, nl_40, nl_41, nl_42, nl_43, nl_44, nl_45, nl_46, nl_47, nl_48, nl_49, nl_50, nl_51, nl_52, nl_53, nl_54, nl_55, nl_56, nl_57, nl_58, nl_59, nl_60, nl_61, nl_62, nl_64, nl_65, nl_66, nl_67, nl_68, nl_69, nl_92, nl_97, nl_99, nl_100, nl_122, nl_127, nl_128, nl_131, nl_132, nl_150, nl_200, nl_255, nl_256, nl_300, nl_342, nl_380, nl_381, nl_400, nl_401, nl_420, nl_500, nl_600, nl_800, nl_999, nl_1000, nl_1023, nl_1024, nl_1200, nl_2048, nl_2100, nl_4096, nl_9999, nl_10000, nl_10240, nl_999999, nl_1000000, if_pos, if_neg, hop, hlen ▸ h3, g20_73, harg, g20_80, g20_202, List.length_cons]
    · refine ⟨mj_u hi 21 st.length (val o), .int (nI o), ?_, ⟨by rw [mj_u_eq, if_neg h10], wv_at_congr (fun k hk => mj_u_pt (by omega)) ha⟩, fun a k h => mj_u_pt (by omega)⟩
      have hvo := hv o (by omega)
      rw [g20_5]
      simp (disch := omega) only [↓reduceIte, Bool.false_eq_true, eq_self, mj_10, mj_01, mj_n10, mj_0n1, mj_1n1, mj_n11, mj_bi_some, mj_bv_some, mj_bj_some, mj_br_some, mj_r0, mj_r1, mj_q0, mj_q1, mj_b01, mj_q2, if_true, if_false, mj_it, mj_if, true_and, and_true, false_and, and_false, not_true_eq_false, not_false_eq_true, true_or, or_true, false_or, or_false, mj_nIle, mj_nIlt, mj_nIeq, mj_nI0, mj_nIc, mj_nIadd, mj_nIs, mj_ez, mj_ze, mj_eo, mj_ltz, mj_lez, mj_zlt, mj_olt, mj_lto, mj_leo, mj_ole, mj_nIn, mj_nnI, nl_2, nl_3, nl_4, nl_5, nl_6, nl_7, nl_8, nl_9, nl_10, nl_11, nl_12, nl_13, nl_14, nl_15, nl_16, nl_17, nl_18, nl_19, nl_20, nl_21, nl_22, nl_23, nl_24, nl_25, nl_26, nl_27, nl_28, nl_29, nl_30, nl_32, nl_33, nl_34, nl_35, nl_36, nl_37, nl_38, nl_39, nl_40, nl_41, nl_42, nl_43, nl_44, nl_45, nl_46, nl_47, nl_48, nl_49, nl_50, nl_51, nl_52, nl_53, nl_54, nl_55, nl_56, nl_57, nl_58, nl_59, nl_60, nl_61, nl_62, nl_64, nl_65, nl_66, nl_67, nl_68, nl_69, nl_92, nl_97, nl_99, nl_100, nl_122, nl_127, nl_128, nl_131, nl_132, nl_150, nl_200, nl_255, nl_256, nl_300, nl_342, nl_380, nl_381, nl_400, nl_401, nl_420, nl_500, nl_600, nl_800, nl_999, nl_1000, nl_1023, nl_1024, nl_1200, nl_2048, nl_2100, nl_4096, nl_9999, nl_10000, nl_10240, nl_999999, nl_1000000, if_pos, if_neg, hop, hvo, hlen ▸ h3, g20_73, harg, g20_80, g20_202, List.length_cons]
  · obtain ⟨x, s, rfl, p1, p2⟩ := wv_i1 ho
    have hls : s.length < 32 := by simp only [List.length_cons] at hlen h32; omega
    have hx : hi 21 s.length = x := ha.1
    have hm : nI (s.length + 1) - (1 : Int32) = nI s.length := by rw [mj_nIp (by omega)]; rfl
    refine ⟨mj_u hi 21 s.length (1 - x), .int 18, ?_, ⟨mj_u_eq, wv_at_congr (fun k hk => mj_u_pt (by omega)) ha.2⟩, fun a k h => mj_u_pt (by omega)⟩
    rw [g20_5]
    show _ = mj_den mj_P E (d + 1) 20 5 [.ref 13, .int v1, .int (nI e), .int (nI (s.length + 1)), .int (nI (i + 1)), .int 18] [] _
    simp (disch := omega) only [↓reduceIte, Bool.false_eq_true, eq_self, mj_10, mj_01, mj_n10, mj_0n1, mj_1n1, mj_n11, mj_bi_some, mj_bv_some, mj_bj_some, mj_br_some, mj_r0, mj_r1, mj_q0, mj_q1, mj_b01, mj_q2, if_true, if_false, mj_it, mj_if, true_and, and_true, false_and, and_false, not_true_eq_false, not_false_eq_true, true_or, or_true, false_or, or_false, mj_nIle, mj_nIlt, mj_nIeq, mj_nI0, mj_nIc, mj_nIadd, mj_nIs, mj_ez, mj_ze, mj_eo, mj_ltz, mj_lez, mj_zlt, mj_olt, mj_lto, mj_leo, mj_ole, mj_nIn, mj_nnI, nl_2, nl_3, nl_4, nl_5, nl_6, nl_7, nl_8, nl_9, nl_10, nl_11, nl_12, nl_13, nl_14, nl_15, nl_16, nl_17, nl_18, nl_19, nl_20, nl_21, nl_22, nl_23, nl_24, nl_25, nl_26, nl_27, nl_28, nl_29, nl_30, nl_32, nl_33, nl_34, nl_35, nl_36, nl_37, nl_38, nl_39, nl_40, nl_41, nl_42, nl_43, nl_44, nl_45, nl_46, nl_47, nl_48, nl_49, nl_50, nl_51, nl_52, nl_53, nl_54, nl_55, nl_56, nl_57, nl_58, nl_59, nl_60, nl_61, nl_62, nl_64, nl_65, nl_66, nl_67, nl_68, nl_69, nl_92, nl_97, nl_99, nl_100, nl_122, nl_127, nl_128, nl_131, nl_132, nl_150, nl_200, nl_255, nl_256, nl_300, nl_342, nl_380, nl_381, nl_400, nl_401, nl_420, nl_500, nl_600, nl_800, nl_999, nl_1000, nl_1023, nl_1024, nl_1200, nl_2048, nl_2100, nl_4096, nl_9999, nl_10000, nl_10240, nl_999999, nl_1000000, if_pos, if_neg, hop, g20_87, hm, hx, g20_202, List.length_cons]
  · obtain ⟨x, s, rfl, p1, p2⟩ := wv_i1 ho
    have hls : s.length < 32 := by simp only [List.length_cons] at hlen h32; omega
    have hx : hi 21 s.length = x := ha.1
    have hm : nI (s.length + 1) - (1 : Int32) = nI s.length := by rw [mj_nIp (by omega)]; rfl
    have ha0 := h14 rfl
    refine ⟨mj_u hi 21 s.length (x / arg), .int 14, ?_, ⟨mj_u_eq, wv_at_congr (fun k hk => mj_u_pt (by omega)) ha.2⟩, fun a k h => mj_u_pt (by omega)⟩
    rw [g20_5]
    show _ = mj_den mj_P E (d + 1) 20 5 [.ref 13, .int v1, .int (nI e), .int (nI (s.length + 1)), .int (nI (i + 1)), .int 14] [] _
    simp (disch := omega) only [↓reduceIte, Bool.false_eq_true, eq_self, mj_10, mj_01, mj_n10, mj_0n1, mj_1n1, mj_n11, mj_bi_some, mj_bv_some, mj_bj_some, mj_br_some, mj_r0, mj_r1, mj_q0, mj_q1, mj_b01, mj_q2, if_true, if_false, mj_it, mj_if, true_and, and_true, false_and, and_false, not_true_eq_false, not_false_eq_true, true_or, or_true, false_or, or_false, mj_nIle, mj_nIlt, mj_nIeq, mj_nI0, mj_nIc, mj_nIadd, mj_nIs, mj_ez, mj_ze, mj_eo, mj_ltz, mj_lez, mj_zlt, mj_olt, mj_lto, mj_leo, mj_ole, mj_nIn, mj_nnI, nl_2, nl_3, nl_4, nl_5, nl_6, nl_7, nl_8, nl_9, nl_10, nl_11, nl_12, nl_13, nl_14, nl_15, nl_16, nl_17, nl_18, nl_19, nl_20, nl_21, nl_22, nl_23, nl_24, nl_25, nl_26, nl_27, nl_28, nl_29, nl_30, nl_32, nl_33, nl_34, nl_35, nl_36, nl_37, nl_38, nl_39, nl_40, nl_41, nl_42, nl_43, nl_44, nl_45, nl_46, nl_47, nl_48, nl_49, nl_50, nl_51, nl_52, nl_53, nl_54, nl_55, nl_56, nl_57, nl_58, nl_59, nl_60, nl_61, nl_62, nl_64, nl_65, nl_66, nl_67, nl_68, nl_69, nl_92, nl_97, nl_99, nl_100, nl_122, nl_127, nl_128, nl_131, nl_132, nl_150, nl_200, nl_255, nl_256, nl_300, nl_342, nl_380, nl_381, nl_400, nl_401, nl_420, nl_500, nl_600, nl_800, nl_999, nl_1000, nl_1023, nl_1024, nl_1200, nl_2048, nl_2100, nl_4096, nl_9999, nl_10000, nl_10240, nl_999999, nl_1000000, if_pos, if_neg, hop, g20_87, g20_119, harg, ha0, hm, hx, g20_202, List.length_cons]
  all_goals
    obtain ⟨y, x, s, rfl, p1, p2, p3⟩ := wv_i2 ho
    have hls : s.length + 1 < 32 := by simp only [List.length_cons] at hlen h32; omega
    have hx : hi 21 s.length = x := ha.2.1
    have hy : hi 21 (s.length + 1) = y := ha.1
    have hm : nI (s.length + 1 + 1) + (-1 : Int32) = nI (s.length + 1) := by rw [mj_nIm (by omega)]; rfl
    have hm2 : nI (s.length + 1) - (1 : Int32) = nI s.length := by rw [mj_nIp (by omega)]; rfl
    have hop8 : op = 11 ∨ op = 12 ∨ op = 13 ∨ op = 15 ∨ op = 16 ∨ op = 17 ∨ op = 19 ∨ op = 20 := by
      first
        | (rcases h1 with h1 | h1 | h1 <;> simp [h1])
        | (rcases h1 with h1 | h1 <;> simp [h1])
    have ej := fun g : mj_HI => s_join (E := E) (d := d) (w := w) (c := c) (hi := g) (hl := hl) (a := x) (b := y) hop8
    have hw2 : wv_op val op arg (y :: x :: s) = wv_b op x y :: s := by
      rcases hop8 with rfl | rfl | rfl | rfl | rfl | rfl | rfl | rfl <;> rfl
    have hn1 : ¬ op < 0 := by rcases hop8 with rfl | rfl | rfl | rfl | rfl | rfl | rfl | rfl <;> decide
    have hn2 : (10 : Int32) < op := by rcases hop8 with rfl | rfl | rfl | rfl | rfl | rfl | rfl | rfl <;> decide
    have hn2' : nI 10 < op := hn2
    have hn3 : ¬ op = nI 18 := by rcases hop8 with rfl | rfl | rfl | rfl | rfl | rfl | rfl | rfl <;> decide
    have hn4 : ¬ op = nI 14 := by rcases hop8 with rfl | rfl | rfl | rfl | rfl | rfl | rfl | rfl <;> decide
    rw [hw2]
    refine ⟨mj_u hi 21 s.length (wv_b op x y), .int op, ?_, ⟨mj_u_eq, wv_at_congr (fun k hk => mj_u_pt (by omega)) ha.2.2⟩, fun a k h => mj_u_pt (by omega)⟩
    rw [g20_5]
    show _ = mj_den mj_P E (d + 1) 20 5 [.ref 13, .int v1, .int (nI e), .int (nI (s.length + 1)), .int (nI (i + 1)), .int op] [] _
    simp (disch := omega) only [↓reduceIte, Bool.false_eq_true, eq_self, mj_10, mj_01, mj_n10, mj_0n1, mj_1n1, mj_n11, mj_bi_some, mj_bv_some, mj_bj_some, mj_br_some, mj_r0, mj_r1, mj_q0, mj_q1, mj_b01, mj_q2, if_true, if_false, mj_it, mj_if, true_and, and_true, false_and, and_false, not_true_eq_false, not_false_eq_true, true_or, or_true, false_or, or_false, mj_nIle, mj_nIlt, mj_nIeq, mj_nI0, mj_nIc, mj_nIadd, mj_nIs, mj_ez, mj_ze, mj_eo, mj_ltz, mj_lez, mj_zlt, mj_olt, mj_lto, mj_leo, mj_ole, mj_nIn, mj_nnI, nl_2, nl_3, nl_4, nl_5, nl_6, nl_7, nl_8, nl_9, nl_10, nl_11, nl_12, nl_13, nl_14, nl_15, nl_16, nl_17, nl_18, nl_19, nl_20, nl_21, nl_22, nl_23, nl_24, nl_25, nl_26, nl_27, nl_28, nl_29, nl_30, nl_32, nl_33, nl_34, nl_35, nl_36, nl_37, nl_38, nl_39, nl_40, nl_41, nl_42, nl_43, nl_44, nl_45, nl_46, nl_47, nl_48, nl_49, nl_50, nl_51, nl_52, nl_53, nl_54, nl_55, nl_56, nl_57, nl_58, nl_59, nl_60, nl_61, nl_62, nl_64, nl_65, nl_66, nl_67, nl_68, nl_69, nl_92, nl_97, nl_99, nl_100, nl_122, nl_127, nl_128, nl_131, nl_132, nl_150, nl_200, nl_255, nl_256, nl_300, nl_342, nl_380, nl_381, nl_400, nl_401, nl_420, nl_500, nl_600, nl_800, nl_999, nl_1000, nl_1023, nl_1024, nl_1200, nl_2048, nl_2100, nl_4096, nl_9999, nl_10000, nl_10240, nl_999999, nl_1000000, if_pos, if_neg, hop, hn1, hn2', hn3, hn4, g20_87, g20_119, g20_167, hm, hm2, hx, hy, ej, g20_201, g20_202, List.length_cons]
