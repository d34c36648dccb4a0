def wv_run (val ops args : Nat → Int32) (i : Nat) : Nat → List Int32
  | 0 => []
  | n + 1 => wv_op val (ops (i + n)) (args (i + n)) (wv_run val ops args i n)
def wv_val (val ops args : Nat → Int32) (i n : Nat) : Int32 := (wv_run val ops args i n).headD 0
theorem wv_tys_lt {ops : Nat → Int32} {i : Nat} {ts : List Bool} : ∀ {n : Nat} {us : List Bool}, iv_tys ops i n ts = some us → ∀ k, k ≤ n → ∃ vs, iv_tys ops i k ts = some vs
  | 0, us, h, k, hk => by rw [show k = 0 by omega]; exact ⟨us, h⟩
  | n + 1, us, h, k, hk => by
    by_cases hkn : k = n + 1
    · rw [hkn]; exact ⟨us, h⟩
    · cases hn : iv_tys ops i n ts with
      | none => unfold iv_tys at h; rw [hn] at h; exact absurd h (by simp)
      | some vs => exact wv_tys_lt hn k (by omega)
theorem wv_tys_s {ops : Nat → Int32} {i n : Nat} {ts us : List Bool} (h : iv_tys ops i (n + 1) ts = some us) {vs : List Bool} (hv : iv_tys ops i n ts = some vs) : iv_ty (ops (i + n)) vs = some us := by
  unfold iv_tys at h; rw [hv] at h; exact h
/-- the class's stack machine -/
theorem s_value {E : mj_E} {d w c : Nat} {hi : mj_HI} {hl : Nat → Nat → Int64} {i n : Nat} {b : Bool} {val : Nat → Int32} (hn : i + n ≤ 400) (ht : iv_tys (hi 18) i n [] = some [b]) (h14 : ∀ j, i ≤ j → j < i + n → hi 18 j = 14 → ¬ hi 19 j = 0) (hv : ∀ k, k < 10 → hi 20 k = val k) : ∃ hi', mj_dc mj_P E (d + 2) 20 [.ref 13, .int (nI i), .int (nI (i + n))] (mj_hw w c hi hl) = some (some (.int (wv_val val (hi 18) (hi 19) i n)), mj_hw w c hi' hl) ∧ (∀ a k, a ≠ 21 → hi' a k = hi a k) := by
  have key := lp_ex (fun k (s : mj_HI × Value) => mj_den mj_P E (d + 1) 20 5 [.ref 13, .int (nI i), .int (nI (i + n)), .int (nI (wv_run val (hi 18) (hi 19) i k).length), .int (nI (i + k)), s.2] [] (mj_hw w c s.1 hl)) (fun k s => (∃ ts, iv_tys (hi 18) i k [] = some ts ∧ ts.length ≤ 32 ∧ wv_ok ts (wv_run val (hi 18) (hi 19) i k)) ∧ wv_at (s.1 21) (wv_run val (hi 18) (hi 19) i k) ∧ ∀ a k, a ≠ 21 → s.1 a k = hi a k) n (fun k s hk hI => ?_) (hi, .float 0) ⟨⟨[], rfl, by simp, trivial⟩, trivial, fun _ _ _ => rfl⟩
  · obtain ⟨⟨g, u⟩, e, ⟨ts, t1, t2, t3⟩, a1, f1⟩ := key
    simp only at e a1 f1
    rw [ht] at t1
    obtain rfl := Option.some.inj t1
    obtain ⟨x, r, hr, _, p2⟩ := wv_i1 t3
    have hr0 : r = [] := by
      cases r with
      | nil => rfl
      | cons _ _ => exact p2.elim
    subst hr0
    rw [hr] at a1
    have hx : g 21 0 = x := a1.1
    refine ⟨g, ?_, f1⟩
    rw [xg20 E (d + 1)]
    have hval : wv_val val (hi 18) (hi 19) i n = x := by unfold wv_val; rw [hr]; rfl
    rw [hval]
    have e0 : mj_den mj_P E (d + 1) 20 5 [.ref 13, .int (nI i), .int (nI (i + n)), .int 0, .int (nI i), .float 0] [] (mj_hw w c hi hl) = _ := e
    rw [g20_0, e0, hr, g20_5]
    have c0 : ((0 : Int32) ≤ 0 ∧ (0 : Int32).toNatClampNeg < 32) := by decide
    have c1 : (0 : Int32).toNatClampNeg = 0 := by decide
    simp (disch := omega) only [↓reduceIte, Bool.false_eq_true, eq_self, mj_10, mj_01, mj_n10, mj_0n1, mj_1n1, mj_n11, mj_bi_some, mj_bv_some, mj_bj_some, mj_br_some, mj_r0, mj_r1, mj_q0, mj_q1, mj_b01, mj_q2, if_true, if_false, mj_it, mj_if, true_and, and_true, false_and, and_false, not_true_eq_false, not_false_eq_true, true_or, or_true, false_or, or_false, mj_nIle, mj_nIlt, mj_nIeq, mj_nI0, mj_nIc, mj_nIadd, mj_nIs, mj_ez, mj_ze, mj_eo, mj_ltz, mj_lez, mj_zlt, mj_olt, mj_lto, mj_leo, mj_ole, mj_nIn, mj_nnI, nl_2, nl_3, nl_4, nl_5, nl_6, nl_7, nl_8, nl_9, nl_10, nl_11, nl_12, nl_13, nl_14, nl_15, nl_16, nl_17, nl_18, nl_19, nl_20, nl_21, nl_22, nl_23, nl_24, nl_25, nl_26, nl_27, nl_28, nl_29, nl_30, nl_32, nl_33, nl_34, nl_35, nl_36, nl_37, nl_38, nl_39, nl_40, nl_41, nl_42, nl_43, nl_44, nl_45, nl_46, nl_47, nl_48, nl_49, nl_50, nl_51, nl_52, nl_53, nl_54, nl_55, nl_56, nl_57, nl_58, nl_59, nl_60, nl_61, nl_62, nl_64, nl_65, nl_66, nl_67, nl_68, nl_69, nl_92, nl_97, nl_99, nl_100, nl_122, nl_127, nl_128, nl_131, nl_132, nl_150, nl_200, nl_255, nl_256, nl_300, nl_342, nl_380, nl_381, nl_400, nl_401, nl_420, nl_500, nl_600, nl_800, nl_999, nl_1000, nl_1023, nl_1024, nl_1200, nl_2048, nl_2100, nl_4096, nl_9999, nl_10000, nl_10240, nl_999999, nl_1000000, if_pos, if_neg, g20_208, c0, c1, hx]
  · obtain ⟨g, u⟩ := s
    obtain ⟨⟨ts, t1, t2, t3⟩, a1, f1⟩ := hI
    simp only at a1 f1
    obtain ⟨us, hus⟩ := wv_tys_lt ht (k + 1) (by omega)
    have hty := wv_tys_s hus t1
    have r18 : g 18 (i + k) = hi 18 (i + k) := f1 _ _ (by omega)
    have r19 : g 19 (i + k) = hi 19 (i + k) := f1 _ _ (by omega)
    obtain ⟨g', u', e', a', f'⟩ := s_v20 (E := E) (d := d) (w := w) (c := c) (hi := g) (hl := hl) (i := i + k) (e := i + n) (v1 := nI i) (u5 := u) (val := val) (by omega) hn (by rw [r18]; exact hty) t2 t3 a1 (by rw [r18, r19]; exact h14 _ (by omega) (by omega)) (fun k hk => by rw [f1 _ _ (by omega)]; exact hv k hk)
    rw [r18, r19] at e' a'
    have ok := wv_ok_op (val := val) (arg := hi 19 (i + k)) hty t2 t3
    exact ⟨(g', u'), e', ⟨us, hus, ok.2, ok.1⟩, a', fun a k h => (f' _ _ h).trans (f1 _ _ h)⟩
theorem iv_ph_s (ops : Nat → Int32) (j : Nat) : iv_ph ops (j + 1) = iv_ph ops j + 1 + (if ops j = 14 then 1 else 0) := by
  unfold iv_ph
  show j + 1 + (iv_cnt _ j + _) = _
  by_cases h : ops j = 14
  · simp only [h, decide_true, if_true]; omega
  · simp only [h, decide_false, if_false, Bool.false_eq_true]; omega
theorem iv_ph_m {ops : Nat → Int32} {i j : Nat} (h : i ≤ j) : iv_ph ops i + (j - i) ≤ iv_ph ops j := by
  obtain ⟨k, rfl⟩ : ∃ k, j = i + k := ⟨j - i, by omega⟩
  clear h
  induction k with
  | zero => simp
  | succ k ih => rw [show i + (k + 1) = i + k + 1 by omega, iv_ph_s]; omega
theorem s_runs {E : mj_E} {d w c : Nat} {hi : mj_HI} {hl : Nat → Nat → Int64} {i n : Nat} {b : Bool} {val ops args : Nat → Int32} (hp : iv_ph ops (i + n) ≤ 400) (hc : ∀ j, i ≤ j → j < i + n → iv_cor (ops j) (args j) (hi 221) (hi 222) (iv_ph ops j)) (ht : iv_tys ops i n [] = some [b]) (hv : ∀ k, k < 10 → hi 227 k = val k) : ∃ hi', mj_dc mj_P E (d + 2) 212 [.ref 205, .int 0, .int (nI (iv_ph ops i)), .int (nI (iv_ph ops (i + n)))] (mj_hw w c hi hl) = some (some (.int (wv_val val ops args i n)), mj_hw w c hi' hl) ∧ (∀ a k, a ≠ 228 → hi' a k = hi a k) := by
  have key := lp_ex (fun k (s : mj_HI) => mj_den mj_P E (d + 1) 212 12 [.ref 205, .int 0, .int (nI (iv_ph ops i)), .int (nI (iv_ph ops (i + n))), .int (nI (wv_run val ops args i k).length), .int (nI (iv_ph ops (i + k)))] [] (mj_hw w c s hl)) (fun k s => (∃ ts, iv_tys ops i k [] = some ts ∧ ts.length ≤ 32 ∧ wv_ok ts (wv_run val ops args i k)) ∧ wv_at (s 228) (wv_run val ops args i k) ∧ ∀ a k, a ≠ 228 → s a k = hi a k) n (fun k s hk hI => ?_) hi ⟨⟨[], rfl, by simp, trivial⟩, trivial, fun _ _ _ => rfl⟩
  · obtain ⟨g, e, ⟨ts, t1, t2, t3⟩, a1, f1⟩ := key
    rw [ht] at t1
    obtain rfl := Option.some.inj t1
    obtain ⟨x, r, hr, _, p2⟩ := wv_i1 t3
    have hr0 : r = [] := by
      cases r with
      | nil => rfl
      | cons _ _ => exact p2.elim
    subst hr0
    rw [hr] at a1
    have hx : g 228 0 = x := a1.1
    refine ⟨g, ?_, f1⟩
    have hval : wv_val val ops args i n = x := by unfold wv_val; rw [hr]; rfl
    rw [hval, e212, q212_0]
    have e0 : mj_den mj_P E (d + 1) 212 12 [.ref 205, .int 0, .int (nI (iv_ph ops i)), .int (nI (iv_ph ops (i + n))), .int 0, .int (nI (iv_ph ops i))] [] (mj_hw w c hi hl) = _ := e
    rw [show (400 : Int32) * 0 + nI (iv_ph ops i) = nI (iv_ph ops i) from wv_z _, e0, hr, q212_12]
    have c0 : ((0 : Int32) ≤ 0 ∧ (0 : Int32).toNatClampNeg < 420) := by decide
    have c1 : (0 : Int32).toNatClampNeg = 0 := by decide
    simp (disch := omega) only [↓reduceIte, Bool.false_eq_true, eq_self, mj_10, mj_01, mj_n10, mj_0n1, mj_1n1, mj_n11, mj_bi_some, mj_bv_some, mj_bj_some, mj_br_some, mj_r0, mj_r1, mj_q0, mj_q1, mj_b01, mj_q2, if_true, if_false, mj_it, mj_if, true_and, and_true, false_and, and_false, not_true_eq_false, not_false_eq_true, true_or, or_true, false_or, or_false, mj_nIle, mj_nIlt, mj_nIeq, mj_nI0, mj_nIc, mj_nIadd, mj_nIs, mj_ez, mj_ze, mj_eo, mj_ltz, mj_lez, mj_zlt, mj_olt, mj_lto, mj_leo, mj_ole, mj_nIn, mj_nnI, nl_2, nl_3, nl_4, nl_5, nl_6, nl_7, nl_8, nl_9, nl_10, nl_11, nl_12, nl_13, nl_14, nl_15, nl_16, nl_17, nl_18, nl_19, nl_20, nl_21, nl_22, nl_23, nl_24, nl_25, nl_26, nl_27, nl_28, nl_29, nl_30, nl_32, nl_33, nl_34, nl_35, nl_36, nl_37, nl_38, nl_39, nl_40, nl_41, nl_42, nl_43, nl_44, nl_45, nl_46, nl_47, nl_48, nl_49, nl_50, nl_51, nl_52, nl_53, nl_54, nl_55, nl_56, nl_57, nl_58, nl_59, nl_60, nl_61, nl_62, nl_64, nl_65, nl_66, nl_67, nl_68, nl_69, nl_92, nl_97, nl_99, nl_100, nl_122, nl_127, nl_128, nl_131, nl_132, nl_150, nl_200, nl_255, nl_256, nl_300, nl_342, nl_380, nl_381, nl_400, nl_401, nl_420, nl_500, nl_600, nl_800, nl_999, nl_1000, nl_1023, nl_1024, nl_1200, nl_2048, nl_2100, nl_4096, nl_9999, nl_10000, nl_10240, nl_999999, nl_1000000, if_pos, if_neg, wv_z, q212_176, c0, c1, hx]
  · obtain ⟨⟨ts, t1, t2, t3⟩, a1, f1⟩ := hI
    obtain ⟨us, hus⟩ := wv_tys_lt ht (k + 1) (by omega)
    have hty := wv_tys_s hus t1
    have hph := iv_ph_s ops (i + k)
    have hm := iv_ph_m (ops := ops) (show i + k + 1 ≤ i + n by omega)
    have r221 : s 221 = hi 221 := funext (fun k => f1 _ _ (by omega))
    have r222 : s 222 = hi 222 := funext (fun k => f1 _ _ (by omega))
    obtain ⟨g', e', a', f'⟩ := s_v212 (E := E) (d := d) (w := w) (c := c) (hi := s) (hl := hl) (p := iv_ph ops (i + k)) (e := iv_ph ops (i + n)) (v2 := nI (iv_ph ops i)) (val := val) (op := ops (i + k)) (arg := args (i + k)) (by rw [r221, r222]; exact hc _ (by omega) (by omega)) (by omega) hp hty t2 t3 a1 (fun k hk => by rw [f1 _ _ (by omega)]; exact hv k hk)
    rw [← hph] at e'
    have ok := wv_ok_op (val := val) (arg := args (i + k)) hty t2 t3
    exact ⟨g', e', ⟨us, hus, ok.2, ok.1⟩, a', fun a k h => (f' _ _ h).trans (f1 _ _ h)⟩
/-- a law's lines, as both sides keep them -/
def wl_P (val ops args kd : Nat → Int32) (cw cc : Nat → Nat) (κ : Int32) (i : Nat) : Bool := decide (kd i = κ ∧ (cw i = cc i ∨ ¬ wv_val val ops args (cw i) (cc i - cw i) = 0))
/-- the first line from i on, of n -/
def wl_x (P : Nat → Bool) : Nat → Nat → Option Nat
  | _, 0 => none
  | i, n + 1 => if P i = true then some i else wl_x P (i + 1) n
theorem wl_x_lt {P : Nat → Bool} : ∀ {n i j : Nat}, wl_x P i n = some j → i ≤ j ∧ j < i + n
  | 0, i, j, h => absurd h (by simp [wl_x])
  | n + 1, i, j, h => by
    unfold wl_x at h
    by_cases hp : P i = true
    · rw [if_pos hp] at h
      have := Option.some.inj h
      omega
    · rw [if_neg hp] at h
      have := wl_x_lt h
      omega
def wl_C (h : mj_HI) (L len : Nat) (cb cw cc : Nat → Nat) : Prop := L ≤ 16 ∧ len ≤ 400 ∧ h 13 0 = nI L ∧ (∀ j, j < len → h 18 j = 14 → ¬ h 19 j = 0) ∧ ∀ i, i < L → cb i ≤ cw i ∧ cw i ≤ cc i ∧ cc i ≤ len ∧ h 15 i = nI (cb i) ∧ h 16 i = nI (cw i) ∧ h 17 i = nI (cc i) ∧ iv_tys (h 18) (cb i) (cw i - cb i) [] = some [false] ∧ (cw i = cc i ∨ iv_tys (h 18) (cw i) (cc i - cw i) [] = some [true])
def wl_df (val : Nat → Int32) (κ : Int32) : Int32 := if κ = 0 then nI 300 - nI 3 * val 0 else if κ = 1 then val 5 / 2 else 5
def wl_a (val ops args kd : Nat → Int32) (cb cw cc : Nat → Nat) (κ : Int32) (i n : Nat) (df : Int32) : Int32 := match wl_x (wl_P val ops args kd cw cc κ) i n with | some j => wv_val val ops args (cb j) (cw j - cb j) | none => df
theorem s_answer {E : mj_E} {d w c : Nat} {hl : Nat → Nat → Int64} {h0 : mj_HI} {L len : Nat} {cb cw cc : Nat → Nat} {val : Nat → Int32} {κ : Int32} (q : wl_C h0 L len cb cw cc) (hv : ∀ k, k < 10 → h0 20 k = val k) : ∀ (n i : Nat) (g : mj_HI), i + n = L → (∀ a k, a ≠ 21 → g a k = h0 a k) → ∃ g', mj_den mj_P E (d + 2) 19 2 [.ref 13, .int κ, .int (nI i)] [] (mj_hw w c g hl) = some (some (.int (wl_a val (h0 18) (h0 19) (h0 14) cb cw cc κ i n (wl_df val κ))), mj_hw w c g' hl) ∧ ∀ a k, a ≠ 21 → g' a k = h0 a k := by
  obtain ⟨L16, len400, hL, h14, hq⟩ := q
  intro n
  induction n with
  | zero =>
    intro i g hin hg
    refine ⟨g, ?_, hg⟩
    have g13 : g 13 0 = nI L := by rw [hg _ _ (by omega)]; exact hL
    have v0 : g 20 0 = val 0 := by rw [hg _ _ (by omega)]; exact hv 0 (by omega)
    have v5 : g 20 5 = val 5 := by rw [hg _ _ (by omega)]; exact hv 5 (by omega)
    have ea : wl_a val (h0 18) (h0 19) (h0 14) cb cw cc κ i 0 (wl_df val κ) = wl_df val κ := rfl
    rw [ea, q19_2]
    have c0 : ((0 : Int32) ≤ 0 ∧ (0 : Int32).toNatClampNeg < 10) := by decide
    have c1 : (0 : Int32).toNatClampNeg = 0 := by decide
    have c2 : ((5 : Int32) ≠ 0) := by decide
    have c20 : ¬ (2 : Int32) = 0 := by decide
    unfold wl_df
    by_cases k0 : κ = 0
    · subst k0
      simp (disch := omega) only [↓reduceIte, Bool.false_eq_true, eq_self, mj_10, mj_01, mj_n10, mj_0n1, mj_1n1, mj_n11, mj_bi_some, mj_bv_some, mj_bj_some, mj_br_some, mj_r0, mj_r1, mj_q0, mj_q1, mj_b01, mj_q2, if_true, if_false, mj_it, mj_if, true_and, and_true, false_and, and_false, not_true_eq_false, not_false_eq_true, true_or, or_true, false_or, or_false, mj_nIle, mj_nIlt, mj_nIeq, mj_nI0, mj_nIc, mj_nIadd, mj_nIs, mj_ez, mj_ze, mj_eo, mj_ltz, mj_lez, mj_zlt, mj_olt, mj_lto, mj_leo, mj_ole, mj_nIn, mj_nnI, nl_2, nl_3, nl_4, nl_5, nl_6, nl_7, nl_8, nl_9, nl_10, nl_11, nl_12, nl_13, nl_14, nl_15, nl_16, nl_17, nl_18, nl_19, nl_20, nl_21, nl_22, nl_23, nl_24, nl_25, nl_26, nl_27, nl_28, nl_29, nl_30, nl_32, nl_33, nl_34, nl_35, nl_36, nl_37, nl_38, nl_39, nl_40, nl_41, nl_42, nl_43, nl_44, nl_45, nl_46, nl_47, nl_48, nl_49, nl_50, nl_51, nl_52, nl_53, nl_54, nl_55, nl_56, nl_57, nl_58, nl_59, nl_60, nl_61, nl_62, nl_64, nl_65, nl_66, nl_67, nl_68, nl_69, nl_92, nl_97, nl_99, nl_100, nl_122, nl_127, nl_128, nl_131, nl_132, nl_150, nl_200, nl_255, nl_256, nl_300, nl_342, nl_380, nl_381, nl_400, nl_401, nl_420, nl_500, nl_600, nl_800, nl_999, nl_1000, nl_1023, nl_1024, nl_1200, nl_2048, nl_2100, nl_4096, nl_9999, nl_10000, nl_10240, nl_999999, nl_1000000, if_pos, if_neg, g13, q19_83, c0, c1, v0]
    · by_cases k1 : κ = 1
      · subst k1
        simp (disch := omega) only [↓reduceIte, Bool.false_eq_true, eq_self, mj_10, mj_01, mj_n10, mj_0n1, mj_1n1, mj_n11, mj_bi_some, mj_bv_some, mj_bj_some, mj_br_some, mj_r0, mj_r1, mj_q0, mj_q1, mj_b01, mj_q2, if_true, if_false, mj_it, mj_if, true_and, and_true, false_and, and_false, not_true_eq_false, not_false_eq_true, true_or, or_true, false_or, or_false, mj_nIle, mj_nIlt, mj_nIeq, mj_nI0, mj_nIc, mj_nIadd, mj_nIs, mj_ez, mj_ze, mj_eo, mj_ltz, mj_lez, mj_zlt, mj_olt, mj_lto, mj_leo, mj_ole, mj_nIn, mj_nnI, nl_2, nl_3, nl_4, nl_5, nl_6, nl_7, nl_8, nl_9, nl_10, nl_11, nl_12, nl_13, nl_14, nl_15, nl_16, nl_17, nl_18, nl_19, nl_20, nl_21, nl_22, nl_23, nl_24, nl_25, nl_26, nl_27, nl_28, nl_29, nl_30, nl_32, nl_33, nl_34, nl_35, nl_36, nl_37, nl_38, nl_39, nl_40, nl_41, nl_42, nl_43, nl_44, nl_45, nl_46, nl_47, nl_48, nl_49, nl_50, nl_51, nl_52, nl_53, nl_54, nl_55, nl_56, nl_57, nl_58, nl_59, nl_60, nl_61, nl_62, nl_64, nl_65, nl_66, nl_67, nl_68, nl_69, nl_92, nl_97, nl_99, nl_100, nl_122, nl_127, nl_128, nl_131, nl_132, nl_150, nl_200, nl_255, nl_256, nl_300, nl_342, nl_380, nl_381, nl_400, nl_401, nl_420, nl_500, nl_600, nl_800, nl_999, nl_1000, nl_1023, nl_1024, nl_1200, nl_2048, nl_2100, nl_4096, nl_9999, nl_10000, nl_10240, nl_999999, nl_1000000, if_pos, if_neg, g13, q19_83, q19_100, q19_117, v5]
      · simp (disch := omega) only [↓reduceIte, Bool.false_eq_true, eq_self, mj_10, mj_01, mj_n10, mj_0n1, mj_1n1, mj_n11, mj_bi_some, mj_bv_some, mj_bj_some, mj_br_some, mj_r0, mj_r1, mj_q0, mj_q1, mj_b01, mj_q2, if_true, if_false, mj_it, mj_if, true_and, and_true, false_and, and_false, not_true_eq_false, not_false_eq_true, true_or, or_true, false_or, or_false, mj_nIle, mj_nIlt, mj_nIeq, mj_nI0, mj_nIc, mj_nIadd, mj_nIs, mj_ez, mj_ze, mj_eo, mj_ltz, mj_lez, mj_zlt, mj_olt, mj_lto, mj_leo, mj_ole, mj_nIn, mj_nnI, nl_2, nl_3, nl_4, nl_5, nl_6, nl_7, nl_8, nl_9, nl_10, nl_11, nl_12, nl_13, nl_14, nl_15, nl_16, nl_17, nl_18, nl_19, nl_20, nl_21, nl_22, nl_23, nl_24, nl_25, nl_26, nl_27, nl_28, nl_29, nl_30, nl_32, nl_33, nl_34, nl_35, nl_36, nl_37, nl_38, nl_39, nl_40, nl_41, nl_42, nl_43, nl_44, nl_45, nl_46, nl_47, nl_48, nl_49, nl_50, nl_51, nl_52, nl_53, nl_54, nl_55, nl_56, nl_57, nl_58, nl_59, nl_60, nl_61, nl_62, nl_64, nl_65, nl_66, nl_67, nl_68, nl_69, nl_92, nl_97, nl_99, nl_100, nl_122, nl_127, nl_128, nl_131, nl_132, nl_150, nl_200, nl_255, nl_256, nl_300, nl_342, nl_380, nl_381, nl_400, nl_401, nl_420, nl_500, nl_600, nl_800, nl_999, nl_1000, nl_1023, nl_1024, nl_1200, nl_2048, nl_2100, nl_4096, nl_9999, nl_10000, nl_10240, nl_999999, nl_1000000, if_pos, if_neg, g13, q19_83, q19_100, q19_116, q19_117, k0, k1]
  | succ n ih =>
    intro i g hin hg
    obtain ⟨b1, b2, b3, b4, b5, b6, b7, b8⟩ := hq i (by omega)
    have g13 : g 13 0 = nI L := by rw [hg _ _ (by omega)]; exact hL
    have g14 : g 14 i = h0 14 i := hg _ _ (by omega)
    have g15 : g 15 i = nI (cb i) := by rw [hg _ _ (by omega)]; exact b4
    have g16 : g 16 i = nI (cw i) := by rw [hg _ _ (by omega)]; exact b5
    have g17 : g 17 i = nI (cc i) := by rw [hg _ _ (by omega)]; exact b6
    have val1 : ∀ f : mj_HI, (∀ a k, a ≠ 21 → f a k = h0 a k) → ∀ s m b, s + m ≤ len → iv_tys (h0 18) s m [] = some [b] → ∃ f', mj_dc mj_P E (d + 2) 20 [.ref 13, .int (nI s), .int (nI (s + m))] (mj_hw w c f hl) = some (some (.int (wv_val val (h0 18) (h0 19) s m)), mj_hw w c f' hl) ∧ ∀ a k, a ≠ 21 → f' a k = h0 a k := fun f hf s m b hsm ht => by
      have f18 : f 18 = h0 18 := funext (fun k => hf _ _ (by omega))
      have f19 : f 19 = h0 19 := funext (fun k => hf _ _ (by omega))
      obtain ⟨f', e, p⟩ := s_value (E := E) (d := d) (w := w) (c := c) (hi := f) (hl := hl) (i := s) (n := m) (b := b) (val := val) (by omega) (by rw [f18]; exact ht) (fun j h1 h2 => by rw [f18, f19]; exact h14 j (by omega)) (fun k hk => by rw [hf _ _ (by omega)]; exact hv k hk)
      rw [f18, f19] at e
      exact ⟨f', e, fun a k h => by rw [p _ _ h, hf _ _ h]⟩
    have step : ∀ f : mj_HI, (∀ a k, a ≠ 21 → f a k = h0 a k) → wl_P val (h0 18) (h0 19) (h0 14) cw cc κ i = false → ∃ g', mj_den mj_P E (d + 2) 19 77 [.ref 13, .int κ, .int (nI i)] [] (mj_hw w c f hl) = some (some (.int (wl_a val (h0 18) (h0 19) (h0 14) cb cw cc κ i (n + 1) (wl_df val κ))), mj_hw w c g' hl) ∧ ∀ a k, a ≠ 21 → g' a k = h0 a k := fun f hf hP => by
      obtain ⟨g', e, p⟩ := ih (i + 1) f (by omega) hf
      refine ⟨g', ?_, p⟩
      have : wl_a val (h0 18) (h0 19) (h0 14) cb cw cc κ i (n + 1) (wl_df val κ) = wl_a val (h0 18) (h0 19) (h0 14) cb cw cc κ (i + 1) n (wl_df val κ) := by
        unfold wl_a
        rw [show wl_x (wl_P val (h0 18) (h0 19) (h0 14) cw cc κ) i (n + 1) = wl_x (wl_P val (h0 18) (h0 19) (h0 14) cw cc κ) (i + 1) n from if_neg (by rw [hP]; decide)]
      rw [this, q19_77, mj_nIs]; exact e
    have hit : ∀ f : mj_HI, (∀ a k, a ≠ 21 → f a k = h0 a k) → wl_P val (h0 18) (h0 19) (h0 14) cw cc κ i = true → ∃ g', mj_den mj_P E (d + 2) 19 60 [.ref 13, .int κ, .int (nI i)] [] (mj_hw w c f hl) = some (some (.int (wl_a val (h0 18) (h0 19) (h0 14) cb cw cc κ i (n + 1) (wl_df val κ))), mj_hw w c g' hl) ∧ ∀ a k, a ≠ 21 → g' a k = h0 a k := fun f hf hP => by
      obtain ⟨g', e, p⟩ := val1 f hf (cb i) (cw i - cb i) false (by omega) b7
      rw [show cb i + (cw i - cb i) = cw i by omega] at e
      refine ⟨g', ?_, p⟩
      have : wl_a val (h0 18) (h0 19) (h0 14) cb cw cc κ i (n + 1) (wl_df val κ) = wv_val val (h0 18) (h0 19) (cb i) (cw i - cb i) := by
        unfold wl_a
        rw [show wl_x (wl_P val (h0 18) (h0 19) (h0 14) cw cc κ) i (n + 1) = some i from if_pos hP]
      have f15 : f 15 i = nI (cb i) := by rw [hf _ _ (by omega)]; exact b4
      have f16 : f 16 i = nI (cw i) := by rw [hf _ _ (by omega)]; exact b5
      rw [this, q19_60]
      simp (disch := omega) only [↓reduceIte, Bool.false_eq_true, eq_self, mj_10, mj_01, mj_n10, mj_0n1, mj_1n1, mj_n11, mj_bi_some, mj_bv_some, mj_bj_some, mj_br_some, mj_r0, mj_r1, mj_q0, mj_q1, mj_b01, mj_q2, if_true, if_false, mj_it, mj_if, true_and, and_true, false_and, and_false, not_true_eq_false, not_false_eq_true, true_or, or_true, false_or, or_false, mj_nIle, mj_nIlt, mj_nIeq, mj_nI0, mj_nIc, mj_nIadd, mj_nIs, mj_ez, mj_ze, mj_eo, mj_ltz, mj_lez, mj_zlt, mj_olt, mj_lto, mj_leo, mj_ole, mj_nIn, mj_nnI, nl_2, nl_3, nl_4, nl_5, nl_6, nl_7, nl_8, nl_9, nl_10, nl_11, nl_12, nl_13, nl_14, nl_15, nl_16, nl_17, nl_18, nl_19, nl_20, nl_21, nl_22, nl_23, nl_24, nl_25, nl_26, nl_27, nl_28, nl_29, nl_30, nl_32, nl_33, nl_34, nl_35, nl_36, nl_37, nl_38, nl_39, nl_40, nl_41, nl_42, nl_43, nl_44, nl_45, nl_46, nl_47, nl_48, nl_49, nl_50, nl_51, nl_52, nl_53, nl_54, nl_55, nl_56, nl_57, nl_58, nl_59, nl_60, nl_61, nl_62, nl_64, nl_65, nl_66, nl_67, nl_68, nl_69, nl_92, nl_97, nl_99, nl_100, nl_122, nl_127, nl_128, nl_131, nl_132, nl_150, nl_200, nl_255, nl_256, nl_300, nl_342, nl_380, nl_381, nl_400, nl_401, nl_420, nl_500, nl_600, nl_800, nl_999, nl_1000, nl_1023, nl_1024, nl_1200, nl_2048, nl_2100, nl_4096, nl_9999, nl_10000, nl_10240, nl_999999, nl_1000000, if_pos, if_neg, f15, f16, e, q19_76]
    have hcwl : cw i ≤ 400 := by omega
    have hccl : cc i ≤ 400 := by omega
    rw [q19_2]
    by_cases hk : h0 14 i = κ
    · by_cases hwc : cw i = cc i
      · obtain ⟨g', e, p⟩ := hit g hg (decide_eq_true ⟨hk, Or.inl hwc⟩)
        refine ⟨g', ?_, p⟩
        rw [← e]
        simp (disch := omega) only [↓reduceIte, Bool.false_eq_true, eq_self, mj_10, mj_01, mj_n10, mj_0n1, mj_1n1, mj_n11, mj_bi_some, mj_bv_some, mj_bj_some, mj_br_some, mj_r0, mj_r1, mj_q0, mj_q1, mj_b01, mj_q2, if_true, if_false, mj_it, mj_if, true_and, and_true, false_and, and_false, not_true_eq_false, not_false_eq_true, true_or, or_true, false_or, or_false, mj_nIle, mj_nIlt, mj_nIeq, mj_nI0, mj_nIc, mj_nIadd, mj_nIs, mj_ez, mj_ze, mj_eo, mj_ltz, mj_lez, mj_zlt, mj_olt, mj_lto, mj_leo, mj_ole, mj_nIn, mj_nnI, nl_2, nl_3, nl_4, nl_5, nl_6, nl_7, nl_8, nl_9, nl_10, nl_11, nl_12, nl_13, nl_14, nl_15, nl_16, nl_17, nl_18, nl_19, nl_20, nl_21, nl_22, nl_23, nl_24, nl_25, nl_26, nl_27, nl_28, nl_29, nl_30, nl_32, nl_33, nl_34, nl_35, nl_36, nl_37, nl_38, nl_39, nl_40, nl_41, nl_42, nl_43, nl_44, nl_45, nl_46, nl_47, nl_48, nl_49, nl_50, nl_51, nl_52, nl_53, nl_54, nl_55, nl_56, nl_57, nl_58, nl_59, nl_60, nl_61, nl_62, nl_64, nl_65, nl_66, nl_67, nl_68, nl_69, nl_92, nl_97, nl_99, nl_100, nl_122, nl_127, nl_128, nl_131, nl_132, nl_150, nl_200, nl_255, nl_256, nl_300, nl_342, nl_380, nl_381, nl_400, nl_401, nl_420, nl_500, nl_600, nl_800, nl_999, nl_1000, nl_1023, nl_1024, nl_1200, nl_2048, nl_2100, nl_4096, nl_9999, nl_10000, nl_10240, nl_999999, nl_1000000, if_pos, if_neg, g13, g14, g16, g17, hk, hwc]
      · have hty := b8.resolve_left hwc
        obtain ⟨f, ef, pf⟩ := val1 g hg (cw i) (cc i - cw i) true (by omega) hty
        rw [show cw i + (cc i - cw i) = cc i by omega] at ef
        by_cases hz : wv_val val (h0 18) (h0 19) (cw i) (cc i - cw i) = 0
        · obtain ⟨g', e, p⟩ := step f pf (decide_eq_false (fun z => z.2.elim hwc (fun y => y hz)))
          refine ⟨g', ?_, p⟩
          rw [← e]
          simp (disch := omega) only [↓reduceIte, Bool.false_eq_true, eq_self, mj_10, mj_01, mj_n10, mj_0n1, mj_1n1, mj_n11, mj_bi_some, mj_bv_some, mj_bj_some, mj_br_some, mj_r0, mj_r1, mj_q0, mj_q1, mj_b01, mj_q2, if_true, if_false, mj_it, mj_if, true_and, and_true, false_and, and_false, not_true_eq_false, not_false_eq_true, true_or, or_true, false_or, or_false, mj_nIle, mj_nIlt, mj_nIeq, mj_nI0, mj_nIc, mj_nIadd, mj_nIs, mj_ez, mj_ze, mj_eo, mj_ltz, mj_lez, mj_zlt, mj_olt, mj_lto, mj_leo, mj_ole, mj_nIn, mj_nnI, nl_2, nl_3, nl_4, nl_5, nl_6, nl_7, nl_8, nl_9, nl_10, nl_11, nl_12, nl_13, nl_14, nl_15, nl_16, nl_17, nl_18, nl_19, nl_20, nl_21, nl_22, nl_23, nl_24, nl_25, nl_26, nl_27, nl_28, nl_29, nl_30, nl_32, nl_33, nl_34, nl_35, nl_36, nl_37, nl_38, nl_39, nl_40, nl_41, nl_42, nl_43, nl_44, nl_45, nl_46, nl_47, nl_48, nl_49, nl_50, nl_51, nl_52, nl_53, nl_54, nl_55, nl_56, nl_57, nl_58, nl_59, nl_60, nl_61, nl_62, nl_64, nl_65, nl_66, nl_67, nl_68, nl_69, nl_92, nl_97, nl_99, nl_100, nl_122, nl_127, nl_128, nl_131, nl_132, nl_150, nl_200, nl_255, nl_256, nl_300, nl_342, nl_380, nl_381, nl_400, nl_401, nl_420, nl_500, nl_600, nl_800, nl_999, nl_1000, nl_1023, nl_1024, nl_1200, nl_2048, nl_2100, nl_4096, nl_9999, nl_10000, nl_10240, nl_999999, nl_1000000, if_pos, if_neg, g13, g14, g16, g17, hk, hwc, ef, q19_57, hz]
        · obtain ⟨g', e, p⟩ := hit f pf (decide_eq_true ⟨hk, Or.inr hz⟩)
          refine ⟨g', ?_, p⟩
          rw [← e]
          simp (disch := omega) only [↓reduceIte, Bool.false_eq_true, eq_self, mj_10, mj_01, mj_n10, mj_0n1, mj_1n1, mj_n11, mj_bi_some, mj_bv_some, mj_bj_some, mj_br_some, mj_r0, mj_r1, mj_q0, mj_q1, mj_b01, mj_q2, if_true, if_false, mj_it, mj_if, true_and, and_true, false_and, and_false, not_true_eq_false, not_false_eq_true, true_or, or_true, false_or, or_false, mj_nIle, mj_nIlt, mj_nIeq, mj_nI0, mj_nIc, mj_nIadd, mj_nIs, mj_ez, mj_ze, mj_eo, mj_ltz, mj_lez, mj_zlt, mj_olt, mj_lto, mj_leo, mj_ole, mj_nIn, mj_nnI, nl_2, nl_3, nl_4, nl_5, nl_6, nl_7, nl_8, nl_9, nl_10, nl_11, nl_12, nl_13, nl_14, nl_15, nl_16, nl_17, nl_18, nl_19, nl_20, nl_21, nl_22, nl_23, nl_24, nl_25, nl_26, nl_27, nl_28, nl_29, nl_30, nl_32, nl_33, nl_34, nl_35, nl_36, nl_37, nl_38, nl_39, nl_40, nl_41, nl_42, nl_43, nl_44, nl_45, nl_46, nl_47, nl_48, nl_49, nl_50, nl_51, nl_52, nl_53, nl_54, nl_55, nl_56, nl_57, nl_58, nl_59, nl_60, nl_61, nl_62, nl_64, nl_65, nl_66, nl_67, nl_68, nl_69, nl_92, nl_97, nl_99, nl_100, nl_122, nl_127, nl_128, nl_131, nl_132, nl_150, nl_200, nl_255, nl_256, nl_300, nl_342, nl_380, nl_381, nl_400, nl_401, nl_420, nl_500, nl_600, nl_800, nl_999, nl_1000, nl_1023, nl_1024, nl_1200, nl_2048, nl_2100, nl_4096, nl_9999, nl_10000, nl_10240, nl_999999, nl_1000000, if_pos, if_neg, g13, g14, g16, g17, hk, hwc, ef, q19_57, hz]
    · obtain ⟨g', e, p⟩ := step g hg (decide_eq_false (fun z => hk z.1))
      refine ⟨g', ?_, p⟩
      rw [← e]
      simp (disch := omega) only [↓reduceIte, Bool.false_eq_true, eq_self, mj_10, mj_01, mj_n10, mj_0n1, mj_1n1, mj_n11, mj_bi_some, mj_bv_some, mj_bj_some, mj_br_some, mj_r0, mj_r1, mj_q0, mj_q1, mj_b01, mj_q2, if_true, if_false, mj_it, mj_if, true_and, and_true, false_and, and_false, not_true_eq_false, not_false_eq_true, true_or, or_true, false_or, or_false, mj_nIle, mj_nIlt, mj_nIeq, mj_nI0, mj_nIc, mj_nIadd, mj_nIs, mj_ez, mj_ze, mj_eo, mj_ltz, mj_lez, mj_zlt, mj_olt, mj_lto, mj_leo, mj_ole, mj_nIn, mj_nnI, nl_2, nl_3, nl_4, nl_5, nl_6, nl_7, nl_8, nl_9, nl_10, nl_11, nl_12, nl_13, nl_14, nl_15, nl_16, nl_17, nl_18, nl_19, nl_20, nl_21, nl_22, nl_23, nl_24, nl_25, nl_26, nl_27, nl_28, nl_29, nl_30, nl_32, nl_33, nl_34, nl_35, nl_36, nl_37, nl_38, nl_39, nl_40, nl_41, nl_42, nl_43, nl_44, nl_45, nl_46, nl_47, nl_48, nl_49, nl_50, nl_51, nl_52, nl_53, nl_54, nl_55, nl_56, nl_57, nl_58, nl_59, nl_60, nl_61, nl_62, nl_64, nl_65, nl_66, nl_67, nl_68, nl_69, nl_92, nl_97, nl_99, nl_100, nl_122, nl_127, nl_128, nl_131, nl_132, nl_150, nl_200, nl_255, nl_256, nl_300, nl_342, nl_380, nl_381, nl_400, nl_401, nl_420, nl_500, nl_600, nl_800, nl_999, nl_1000, nl_1023, nl_1024, nl_1200, nl_2048, nl_2100, nl_4096, nl_9999, nl_10000, nl_10240, nl_999999, nl_1000000, if_pos, if_neg, g13, g14, hk]
