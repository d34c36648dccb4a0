/-! the auction: a room of the class and the reference's row 206, side by side -/
def au_R (r n l : Nat) (h m : mj_HI) : Prop := (h r 0 = nI n ∧ h r 1 = nI l ∧ h r 2 = m 206 3 ∧ h r 3 = m 206 0 ∧ h r 4 = m 206 4 ∧ h r 5 = m 206 1 ∧ h r 6 = m 206 2) ∧ (∃ b, b ≤ 150 ∧ m 206 2 = nI b) ∧ (∀ d, d < 10 → h (r + 1) d = m 206 (5 + d) ∧ h (r + 2) d = m 209 d ∧ h (r + 3) d = m 206 (15 + d) ∧ h (r + 4) d = m 210 d ∧ h (r + 5) d = m 206 (25 + d) ∧ h (r + 6) d = m 206 (35 + d)) ∧ (r = 2 → ∀ d, d < n → h (r + 7) d = nI (iv_cnt (fun k => decide (m 206 (45 + k) = nI (d + 1))) l)) ∧ (∀ k, k < 12 → h (r + 8) k = m 211 k ∧ h (r + 9) k = m 212 k) ∧ (r = 2 → ∀ k, k < l → h (r + 10) k = m 206 (45 + k) - 1 ∧ ∃ s, s ≤ n ∧ m 206 (45 + k) = nI s) ∧ (∀ d, d < n → ∃ p, p ≤ 9999 ∧ m 206 (15 + d) = nI p)
theorem au_R_of {r n l : Nat} {h m : mj_HI} (q : iv_IR n l (fun j => h (r + j)) (m 206) m) : au_R r n l h m := by
  obtain ⟨a, b, x3, x4, x5, x6, x7⟩ := q
  exact ⟨a, b, x3, fun _ => x4, x5, fun _ => x6, x7⟩
theorem au_R_to {n l : Nat} {h m : mj_HI} (q : au_R 2 n l h m) : iv_IR n l (fun j => h (2 + j)) (m 206) m := by
  obtain ⟨a, b, x3, x4, x5, x6, x7⟩ := q
  exact ⟨a, b, x3, x4 rfl, x5, x6 rfl, x7⟩
def au_B (h m : mj_HI) : Prop := ∀ i, i < 150 → h 42 i = m 213 (4 * i) ∧ h 43 i = m 213 (4 * i + 1) ∧ h 44 i = m 213 (4 * i + 2) ∧ h 45 i = m 213 (4 * i + 3)
def au (r n l : Nat) (h m : mj_HI) : Prop := au_R r n l h m ∧ (r = 2 → au_B h m)
def au_X (r : Nat) (h h' : mj_HI) : Prop := ∀ a k, ¬ (r ≤ a ∧ a ≤ r + 10) → a ≠ 20 → a ≠ 21 → a ≠ 188 → ¬ (r = 2 ∧ 42 ≤ a ∧ a ≤ 45) → h' a k = h a k
def au_M (m m' : mj_HI) : Prop := ∀ a k, a ≠ 206 → (a ≠ 213 ∨ m 205 5 = 1) → a ≠ 227 → a ≠ 228 → ¬ (a = 205 ∧ (k = 44 ∨ k = 45 ∨ k = 46)) → m' a k = m a k
theorem au_X_t {r : Nat} {h h' h'' : mj_HI} (p : au_X r h h') (q : au_X r h' h'') : au_X r h h'' := fun a k h1 h2 h3 h4 h5 => (q a k h1 h2 h3 h4 h5).trans (p a k h1 h2 h3 h4 h5)
theorem au_M_t {h h' h'' : mj_HI} (p : au_M h h') (q : au_M h' h'') : au_M h h'' := fun a k h1 h2 h3 h4 h5 => (q a k h1 (by rw [p 205 5 (by omega) (Or.inl (by omega)) (by omega) (by omega) (by omega)]; exact h2) h3 h4 h5).trans (p a k h1 h2 h3 h4 h5)
/-- a note changes no more than this -/
def au_N (m m' : mj_HI) : Prop := ∀ a k, a ≠ 206 → (a ≠ 213 ∨ m 205 5 = 1) → m' a k = m a k
theorem au_N_M {m m' : mj_HI} (h : au_N m m') : au_M m m' := fun a k h1 h2 _ _ _ => h a k h1 h2
theorem au_N_t {h h' h'' : mj_HI} (p : au_N h h') (q : au_N h' h'') : au_N h h'' := fun a k h1 h2 => (q a k h1 (by rw [p 205 5 (by omega) (Or.inl (by omega))]; exact h2)).trans (p a k h1 h2)
/-- the wincing changes no more than this -/
def au_O (m m' : mj_HI) : Prop := ∀ a k, a ≠ 206 → (a ≠ 213 ∨ m 205 5 = 1) → a ≠ 227 → a ≠ 228 → a ≠ 206 → m' a k = m a k
theorem au_O_M {m m' : mj_HI} (h : au_O m m') : au_M m m' := fun a k h1 h2 h3 h4 _ => h a k h1 h2 h3 h4 h1
theorem au_N_O {m m' : mj_HI} (h : au_N m m') : au_O m m' := fun a k h1 h2 _ _ _ => h a k h1 h2
theorem au_O_t {h h' h'' : mj_HI} (p : au_O h h') (q : au_O h' h'') : au_O h h'' := fun a k h1 h2 h3 h4 h5 => (q a k h1 (by rw [p 205 5 (by omega) (Or.inl (by omega)) (by omega) (by omega) (by omega)]; exact h2) h3 h4 h5).trans (p a k h1 h2 h3 h4 h5)
/-- where neither side's cells change -/
theorem au_c {r n l : Nat} {h h' m m' : mj_HI} (q : au r n l h m) (c : ∀ a k, (r ≤ a ∧ a ≤ r + 10) ∨ (r = 2 ∧ 42 ≤ a ∧ a ≤ 45) → h' a k = h a k) (e : ∀ a k, a = 206 ∨ (209 ≤ a ∧ a ≤ 213) → m' a k = m a k) : au r n l h' m' := by
  obtain ⟨⟨⟨a0, a1, a2, a3, a4, a5, a6⟩, hb, x3, x4, x5, x6, x7⟩, y⟩ := q
  refine ⟨⟨⟨?_, ?_, ?_, ?_, ?_, ?_, ?_⟩, ?_, fun d hd => ?_, fun hq d hd => ?_, fun k hk => ?_, fun hq k hk => ?_, fun d hd => ?_⟩, fun hr i hi => ?_⟩
  · rw [c _ _ (by omega)]; exact a0
  · rw [c _ _ (by omega)]; exact a1
  · rw [c _ _ (by omega), e _ _ (by omega)]; exact a2
  · rw [c _ _ (by omega), e _ _ (by omega)]; exact a3
  · rw [c _ _ (by omega), e _ _ (by omega)]; exact a4
  · rw [c _ _ (by omega), e _ _ (by omega)]; exact a5
  · rw [c _ _ (by omega), e _ _ (by omega)]; exact a6
  · rw [e _ _ (by omega)]; exact hb
  · rw [c _ _ (by omega), c _ _ (by omega), c _ _ (by omega), c _ _ (by omega), c _ _ (by omega), c _ _ (by omega), e _ _ (by omega), e _ _ (by omega), e _ _ (by omega), e _ _ (by omega), e _ _ (by omega), e _ _ (by omega)]; exact x3 d hd
  · have : (fun k => decide (m' 206 (45 + k) = nI (d + 1))) = (fun k => decide (m 206 (45 + k) = nI (d + 1))) := funext (fun k => by rw [e _ _ (by omega)])
    rw [c _ _ (by omega), this]; exact x4 hq d hd
  · rw [c _ _ (by omega), c _ _ (by omega), e _ _ (by omega), e _ _ (by omega)]; exact x5 k hk
  · rw [c _ _ (by omega), e _ _ (by omega)]; exact x6 hq k hk
  · rw [e _ _ (by omega)]; exact x7 d hd
  · have := y hr i hi
    rw [c _ _ (by omega), c _ _ (by omega), c _ _ (by omega), c _ _ (by omega), e _ _ (by omega), e _ _ (by omega), e _ _ (by omega), e _ _ (by omega)]; exact this
/-- a draw -/
theorem au_draw {r n l : Nat} {h m : mj_HI} (hr : r = 2 ∨ r = 177) (q : au r n l h m) (D : Int32) : au r n l (mj_u h r 5 D) (mj_u m 206 1 D) := by
  obtain ⟨⟨⟨a0, a1, a2, a3, a4, a5, a6⟩, hb, x3, x4, x5, x6, x7⟩, y⟩ := q
  refine ⟨⟨⟨?_, ?_, ?_, ?_, ?_, ?_, ?_⟩, ?_, fun d hd => ?_, fun hq d hd => ?_, fun k hk => ?_, fun hq k hk => ?_, fun d hd => ?_⟩, fun hr i hi => ?_⟩
  · rw [mj_u_pt (by omega)]; exact a0
  · rw [mj_u_pt (by omega)]; exact a1
  · rw [mj_u_pt (by omega), mj_u_pt (by omega)]; exact a2
  · rw [mj_u_pt (by omega), mj_u_pt (by omega)]; exact a3
  · rw [mj_u_pt (by omega), mj_u_pt (by omega)]; exact a4
  · rw [mj_u_eq, mj_u_eq]
  · rw [mj_u_pt (by omega), mj_u_pt (by omega)]; exact a6
  · rw [mj_u_pt (by omega)]; exact hb
  · have := x3 d hd
    simp (disch := omega) only [mj_u_pt]; exact this
  · have : (fun k => decide ((mj_u m 206 1 D) 206 (45 + k) = nI (d + 1))) = (fun k => decide (m 206 (45 + k) = nI (d + 1))) := funext (fun k => by rw [mj_u_pt (by omega)])
    rw [mj_u_pt (by omega), this]; exact x4 hq d hd
  · have := x5 k hk
    simp (disch := omega) only [mj_u_pt]; exact this
  · have := x6 hq k hk
    simp (disch := omega) only [mj_u_pt]; exact this
  · rw [mj_u_pt (by omega)]; exact x7 d hd
  · have := y hr i hi
    simp (disch := omega) only [mj_u_pt]; exact this
/-- a wince more -/
theorem au_wince {r n l K : Nat} {h m : mj_HI} (n10 : n ≤ 10) (hK : K < 10) (hr : r = 2 ∨ r = 177) (q : au r n l h m) : au r n l (mj_u h (r + 6) K (h (r + 6) K + 1)) (mj_u m 206 (35 + K) (m 206 (35 + K) + 1)) := by
  obtain ⟨⟨⟨a0, a1, a2, a3, a4, a5, a6⟩, hb, x3, x4, x5, x6, x7⟩, y⟩ := q
  have hKK := (x3 K hK).2.2.2.2.2
  rw [hKK]
  generalize m 206 (35 + K) + 1 = D
  refine ⟨⟨⟨?_, ?_, ?_, ?_, ?_, ?_, ?_⟩, ?_, fun d hd => ?_, fun hq d hd => ?_, fun k hk => ?_, fun hq k hk => ?_, fun d hd => ?_⟩, fun hr i hi => ?_⟩
  · rw [mj_u_pt (by omega)]; exact a0
  · rw [mj_u_pt (by omega)]; exact a1
  · rw [mj_u_pt (by omega), mj_u_pt (by omega)]; exact a2
  · rw [mj_u_pt (by omega), mj_u_pt (by omega)]; exact a3
  · rw [mj_u_pt (by omega), mj_u_pt (by omega)]; exact a4
  · rw [mj_u_pt (by omega), mj_u_pt (by omega)]; exact a5
  · rw [mj_u_pt (by omega), mj_u_pt (by omega)]; exact a6
  · rw [mj_u_pt (by omega)]; exact hb
  · obtain ⟨b1, b2, b3, b4, b5, b6⟩ := x3 d hd
    refine ⟨?_, ?_, ?_, ?_, ?_, ?_⟩
    · simp (disch := omega) only [mj_u_pt]; exact b1
    · simp (disch := omega) only [mj_u_pt]; exact b2
    · simp (disch := omega) only [mj_u_pt]; exact b3
    · simp (disch := omega) only [mj_u_pt]; exact b4
    · simp (disch := omega) only [mj_u_pt]; exact b5
    · by_cases hdK : d = K
      · subst hdK; rw [mj_u_eq, mj_u_eq]
      · rw [mj_u_pt (by omega), mj_u_pt (by omega)]; exact b6
  · have : (fun k => decide ((mj_u m 206 (35 + K) D) 206 (45 + k) = nI (d + 1))) = (fun k => decide (m 206 (45 + k) = nI (d + 1))) := funext (fun k => by rw [mj_u_pt (by omega)])
    rw [mj_u_pt (by omega), this]; exact x4 hq d hd
  · have := x5 k hk
    simp (disch := omega) only [mj_u_pt]; exact this
  · have := x6 hq k hk
    simp (disch := omega) only [mj_u_pt]; exact this
  · rw [mj_u_pt (by omega)]; exact x7 d hd
  · have := y hr i hi
    simp (disch := omega) only [mj_u_pt]; exact this
def au_nx (h : mj_HI) (κ v2 v3 : Int32) : mj_HI := if h 2 6 = nI 150 then h else mj_u (mj_u (mj_u (mj_u (mj_u h 42 (h 2 6).toNatClampNeg (h 2 3)) 43 (h 2 6).toNatClampNeg κ) 44 (h 2 6).toNatClampNeg v2) 45 (h 2 6).toNatClampNeg v3) 2 6 (h 2 6 + 1)
/-- a line of the book -/
theorem s_note {E : mj_E} {d d' w c : Nat} {hl : Nat → Nat → Int64} {n l : Nat} {hx : mj_HI} (hb : ∃ b, b ≤ 150 ∧ hx 2 6 = nI b) (κ v2 v3 : Int32) : ∃ hx', mj_dc mj_P E (d + 1) 101 [.ref 1, .int κ, .int v2, .int v3] (mj_hw w c hx hl) = some (none, mj_hw w c hx' hl) ∧ au_X 2 hx hx' ∧ (∀ a k, a ≠ 2 → ¬ (42 ≤ a ∧ a ≤ 45) → hx' a k = hx a k) ∧ (∀ k, k ≠ 6 → hx' 2 k = hx 2 k) ∧ (∃ b, b ≤ 150 ∧ hx' 2 6 = nI b) ∧ hx' = au_nx hx κ v2 v3 ∧ ∀ hm, hm 205 5 = 0 → au 2 n l hx hm → ∃ hm', mj_dc mj_P E (d' + 1) 220 [.ref 205, .int κ, .int v2, .int v3] (mj_hw w c hm hl) = some (none, mj_hw w c hm' hl) ∧ au_N hm hm' ∧ au 2 n l hx' hm' := by
  obtain ⟨b, b150, hb⟩ := hb
  have z0 : (0 : Int32).toNatClampNeg = 0 := by decide
  have z00 : (0 : Int32) ≤ 0 := by decide
  by_cases h150 : b < 150
  · refine ⟨mj_u (mj_u (mj_u (mj_u (mj_u hx 42 b (hx 2 3)) 43 b κ) 44 b v2) 45 b v3) 2 6 (nI (b + 1)), ?_, fun a k h1 h2 h3 h4 h5 => by simp (disch := omega) only [mj_u_pt], fun a k h1 h2 => by simp (disch := omega) only [mj_u_pt], fun k h1 => by simp (disch := omega) only [mj_u_pt], ⟨b + 1, by omega, mj_u_eq⟩, by unfold au_nx; rw [hb, if_neg (by rw [mj_nIeq (by omega) (by omega)]; omega), mj_nIc (by omega), mj_nIs], fun hm h5 q => ?_⟩
    · simp (disch := omega) only [q101_0, q101_22, q101_23, e101, ↓reduceIte, Bool.false_eq_true, eq_self, mj_10, mj_01, mj_n10, mj_0n1, mj_1n1, mj_n11, mj_bi_some, mj_bv_some, mj_bj_some, mj_br_some, mj_r0, mj_r1, mj_q0, mj_q1, mj_b01, mj_q2, if_true, if_false, mj_it, mj_if, true_and, and_true, false_and, and_false, not_true_eq_false, not_false_eq_true, true_or, or_true, false_or, or_false, mj_nIle, mj_nIlt, mj_nIeq, mj_nI0, mj_nIc, mj_nIadd, mj_nIs, mj_ez, mj_ze, mj_eo, mj_ltz, mj_lez, mj_zlt, mj_olt, mj_lto, mj_leo, mj_ole, mj_nIn, mj_nnI, nl_2, nl_3, nl_4, nl_5, nl_6, nl_7, nl_8, nl_9, nl_10, nl_11, nl_12, nl_13, nl_14, nl_15, nl_16, nl_17, nl_18, nl_19, nl_20, nl_21, nl_22, nl_23, nl_24, nl_25, nl_26, nl_27, nl_28, nl_29, nl_30, nl_32, nl_33, nl_34, nl_35, nl_36, nl_37, nl_38, nl_39, nl_40, nl_41, nl_42, nl_43, nl_44, nl_45, nl_46, nl_47, nl_48, nl_49, nl_50, nl_51, nl_52, nl_53, nl_54, nl_55, nl_56, nl_57, nl_58, nl_59, nl_60, nl_61, nl_62, nl_64, nl_65, nl_66, nl_67, nl_68, nl_69, nl_92, nl_97, nl_99, nl_100, nl_122, nl_127, nl_128, nl_131, nl_132, nl_150, nl_200, nl_255, nl_256, nl_300, nl_342, nl_380, nl_381, nl_400, nl_401, nl_420, nl_500, nl_600, nl_800, nl_999, nl_1000, nl_1023, nl_1024, nl_1200, nl_2048, nl_2100, nl_4096, nl_9999, nl_10000, nl_10240, nl_999999, nl_1000000, if_pos, if_neg, hb]
    · obtain ⟨⟨⟨a0, a1, a2, a3, a4, a5, a6⟩, _, x3, x4, x5, x6, x7⟩, y⟩ := q
      have hb2 : hm 206 2 = nI b := by rw [← a6]; exact hb
      have e4 : nI 4 * nI b = nI (4 * b) := mj_nImul 4 b
      refine ⟨mj_u (mj_u (mj_u (mj_u (mj_u hm 213 (4 * b) (hm 206 0)) 213 (4 * b + 1) κ) 213 (4 * b + 2) v2) 213 (4 * b + 3) v3) 206 2 (nI (b + 1)), ?_, fun a k h1 h2 => by
        have h2' : a ≠ 213 := by
          rcases h2 with h2 | h2
          · exact h2
          · rw [h5] at h2; exact absurd h2 (by decide)
        simp (disch := omega) only [mj_u_pt], ⟨⟨?_, ?_, ?_, ?_, ?_, ?_, ?_⟩, ?_, fun d hd => ?_, fun hq d hd => ?_, fun k hk => ?_, fun hq k hk => ?_, fun d hd => ?_⟩, fun hr i hi => ?_⟩
      · have hne : ¬ b = 150 := by omega
        simp (disch := omega) only [q220_0, q220_19, q220_20, e220, ↓reduceIte, Bool.false_eq_true, eq_self, mj_10, mj_01, mj_n10, mj_0n1, mj_1n1, mj_n11, mj_bi_some, mj_bv_some, mj_bj_some, mj_br_some, mj_r0, mj_r1, mj_q0, mj_q1, mj_b01, mj_q2, if_true, if_false, mj_it, mj_if, true_and, and_true, false_and, and_false, not_true_eq_false, not_false_eq_true, true_or, or_true, false_or, or_false, mj_nIle, mj_nIlt, mj_nIeq, mj_nI0, mj_nIc, mj_nIadd, mj_nIs, mj_ez, mj_ze, mj_eo, mj_ltz, mj_lez, mj_zlt, mj_olt, mj_lto, mj_leo, mj_ole, mj_nIn, mj_nnI, nl_2, nl_3, nl_4, nl_5, nl_6, nl_7, nl_8, nl_9, nl_10, nl_11, nl_12, nl_13, nl_14, nl_15, nl_16, nl_17, nl_18, nl_19, nl_20, nl_21, nl_22, nl_23, nl_24, nl_25, nl_26, nl_27, nl_28, nl_29, nl_30, nl_32, nl_33, nl_34, nl_35, nl_36, nl_37, nl_38, nl_39, nl_40, nl_41, nl_42, nl_43, nl_44, nl_45, nl_46, nl_47, nl_48, nl_49, nl_50, nl_51, nl_52, nl_53, nl_54, nl_55, nl_56, nl_57, nl_58, nl_59, nl_60, nl_61, nl_62, nl_64, nl_65, nl_66, nl_67, nl_68, nl_69, nl_92, nl_97, nl_99, nl_100, nl_122, nl_127, nl_128, nl_131, nl_132, nl_150, nl_200, nl_255, nl_256, nl_300, nl_342, nl_380, nl_381, nl_400, nl_401, nl_420, nl_500, nl_600, nl_800, nl_999, nl_1000, nl_1023, nl_1024, nl_1200, nl_2048, nl_2100, nl_4096, nl_9999, nl_10000, nl_10240, nl_999999, nl_1000000, if_pos, if_neg, h5, hb2, e4, z0, z00, hne]
      · simp (disch := omega) only [mj_u_pt]; exact a0
      · simp (disch := omega) only [mj_u_pt]; exact a1
      · simp (disch := omega) only [mj_u_pt]; exact a2
      · simp (disch := omega) only [mj_u_pt]; exact a3
      · simp (disch := omega) only [mj_u_pt]; exact a4
      · simp (disch := omega) only [mj_u_pt]; exact a5
      · rw [mj_u_eq, mj_u_eq]
      · exact ⟨b + 1, by omega, mj_u_eq⟩
      · have := x3 d hd
        simp (disch := omega) only [mj_u_pt]; exact this
      · have : (fun k => decide ((mj_u (mj_u (mj_u (mj_u (mj_u hm 213 (4 * b) (hm 206 0)) 213 (4 * b + 1) κ) 213 (4 * b + 2) v2) 213 (4 * b + 3) v3) 206 2 (nI (b + 1))) 206 (45 + k) = nI (d + 1))) = (fun k => decide (hm 206 (45 + k) = nI (d + 1))) := funext (fun k => by simp (disch := omega) only [mj_u_pt])
        rw [this]
        simp (disch := omega) only [mj_u_pt]; exact x4 hq d hd
      · have := x5 k hk
        simp (disch := omega) only [mj_u_pt]; exact this
      · have := x6 hq k hk
        simp (disch := omega) only [mj_u_pt]; exact this
      · simp (disch := omega) only [mj_u_pt]; exact x7 d hd
      · have := y rfl i hi
        by_cases hib : i = b
        · subst hib
          simp (disch := omega) only [mj_u_pt, mj_u_eq]
          exact ⟨a3, trivial, trivial, trivial⟩
        · simp (disch := omega) only [mj_u_pt]; exact this
  · have hb3 : b = 150 := by omega
    subst hb3
    refine ⟨hx, ?_, fun _ _ _ _ _ _ _ => rfl, fun _ _ _ _ => rfl, fun _ _ => rfl, ⟨150, by omega, hb⟩, by unfold au_nx; rw [hb, if_pos rfl], fun hm h5 q => ⟨hm, ?_, fun _ _ _ _ => rfl, q⟩⟩
    · simp (disch := omega) only [q101_0, q101_22, q101_23, e101, ↓reduceIte, Bool.false_eq_true, eq_self, mj_10, mj_01, mj_n10, mj_0n1, mj_1n1, mj_n11, mj_bi_some, mj_bv_some, mj_bj_some, mj_br_some, mj_r0, mj_r1, mj_q0, mj_q1, mj_b01, mj_q2, if_true, if_false, mj_it, mj_if, true_and, and_true, false_and, and_false, not_true_eq_false, not_false_eq_true, true_or, or_true, false_or, or_false, mj_nIle, mj_nIlt, mj_nIeq, mj_nI0, mj_nIc, mj_nIadd, mj_nIs, mj_ez, mj_ze, mj_eo, mj_ltz, mj_lez, mj_zlt, mj_olt, mj_lto, mj_leo, mj_ole, mj_nIn, mj_nnI, nl_2, nl_3, nl_4, nl_5, nl_6, nl_7, nl_8, nl_9, nl_10, nl_11, nl_12, nl_13, nl_14, nl_15, nl_16, nl_17, nl_18, nl_19, nl_20, nl_21, nl_22, nl_23, nl_24, nl_25, nl_26, nl_27, nl_28, nl_29, nl_30, nl_32, nl_33, nl_34, nl_35, nl_36, nl_37, nl_38, nl_39, nl_40, nl_41, nl_42, nl_43, nl_44, nl_45, nl_46, nl_47, nl_48, nl_49, nl_50, nl_51, nl_52, nl_53, nl_54, nl_55, nl_56, nl_57, nl_58, nl_59, nl_60, nl_61, nl_62, nl_64, nl_65, nl_66, nl_67, nl_68, nl_69, nl_92, nl_97, nl_99, nl_100, nl_122, nl_127, nl_128, nl_131, nl_132, nl_150, nl_200, nl_255, nl_256, nl_300, nl_342, nl_380, nl_381, nl_400, nl_401, nl_420, nl_500, nl_600, nl_800, nl_999, nl_1000, nl_1023, nl_1024, nl_1200, nl_2048, nl_2100, nl_4096, nl_9999, nl_10000, nl_10240, nl_999999, nl_1000000, if_pos, if_neg, hb]
    · have hb2 : hm 206 2 = nI 150 := by rw [← q.1.1.2.2.2.2.2.2]; exact hb
      simp (disch := omega) only [q220_0, q220_19, q220_20, e220, ↓reduceIte, Bool.false_eq_true, eq_self, mj_10, mj_01, mj_n10, mj_0n1, mj_1n1, mj_n11, mj_bi_some, mj_bv_some, mj_bj_some, mj_br_some, mj_r0, mj_r1, mj_q0, mj_q1, mj_b01, mj_q2, if_true, if_false, mj_it, mj_if, true_and, and_true, false_and, and_false, not_true_eq_false, not_false_eq_true, true_or, or_true, false_or, or_false, mj_nIle, mj_nIlt, mj_nIeq, mj_nI0, mj_nIc, mj_nIadd, mj_nIs, mj_ez, mj_ze, mj_eo, mj_ltz, mj_lez, mj_zlt, mj_olt, mj_lto, mj_leo, mj_ole, mj_nIn, mj_nnI, nl_2, nl_3, nl_4, nl_5, nl_6, nl_7, nl_8, nl_9, nl_10, nl_11, nl_12, nl_13, nl_14, nl_15, nl_16, nl_17, nl_18, nl_19, nl_20, nl_21, nl_22, nl_23, nl_24, nl_25, nl_26, nl_27, nl_28, nl_29, nl_30, nl_32, nl_33, nl_34, nl_35, nl_36, nl_37, nl_38, nl_39, nl_40, nl_41, nl_42, nl_43, nl_44, nl_45, nl_46, nl_47, nl_48, nl_49, nl_50, nl_51, nl_52, nl_53, nl_54, nl_55, nl_56, nl_57, nl_58, nl_59, nl_60, nl_61, nl_62, nl_64, nl_65, nl_66, nl_67, nl_68, nl_69, nl_92, nl_97, nl_99, nl_100, nl_122, nl_127, nl_128, nl_131, nl_132, nl_150, nl_200, nl_255, nl_256, nl_300, nl_342, nl_380, nl_381, nl_400, nl_401, nl_420, nl_500, nl_600, nl_800, nl_999, nl_1000, nl_1023, nl_1024, nl_1200, nl_2048, nl_2100, nl_4096, nl_9999, nl_10000, nl_10240, nl_999999, nl_1000000, if_pos, if_neg, h5, hb2]
