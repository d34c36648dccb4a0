/-! the rows that are made late; fewest covering -/
section MJ60a
variable {E : mj_E} {C : Nat → List Value → mj_H → mj_R} {J : Nat → mj_K} {is : List mj_I} {pc pc' len : Nat} {cst : Int32} {ax : List Nat} {ls st : List Value} {h h' : mj_H} {R : mj_R}
theorem zt_newarr {ty : ArrayType} {kd q N : Nat} {n : Int32} (hq : h.2.2.2.length = q) (h0 : 0 ≤ n) (hN : n.toNatClampNeg = N) (hN2 : N ≤ 65536) (hp : pc + len = pc') (k : mj_bl E C J is pc' ls (.ref q :: st) (mj_new kd N h) = R) : mj_bl E C J ((.newarray ty, len, cst, [kd]) :: is) pc ls (.int n :: st) h = R := by
  subst hp; subst hq; subst hN
  show (if 0 ≤ n ∧ n.toNatClampNeg ≤ 65536 then _ else none) = R
  rw [if_pos ⟨h0, hN2⟩]; exact k
theorem zt_putr {n ci kk q a x : Nat} (hk : mj_kd h a = ci) (hh : mj_wr (mj_u h.2.2.1 a kk (.ref x)) h = h') (hp : pc + len = pc') (k : mj_bl E C J is pc' ls st h' = R) : mj_bl E C J ((.putfield n, len, cst, [ci, kk, 3, q]) :: is) pc ls (.ref x :: .ref a :: st) h = R := by
  subst hp; subst hh
  show mj_g (mj_kd h a = ci) _ = R
  rw [mj_g_if, if_pos hk]; exact k
end MJ60a
theorem mj_nth_ap2 {l r : List (Nat × Nat)} {i : Nat} (h : mj_nth l i ≠ (999, 0)) : mj_nth (l ++ r) i = mj_nth l i := by
  induction l generalizing i with
  | nil => exact absurd rfl h
  | cons a l ih =>
    cases i with
    | zero => rfl
    | succ i => exact ih h
theorem mj_CLlen : (mj_CL 0).length = 242 ∧ (mj_CL 1).length = 243 ∧ (mj_CL 2).length = 243 := by decide +kernel
theorem mj_CL01 : mj_CL 0 ++ [(101, 4096)] = mj_CL 1 := by show (mj_CL0 ++ []) ++ _ = mj_CL0 ++ _; rw [List.append_nil]; rfl
theorem mj_CL02 : mj_CL 0 ++ [(100, 4096)] = mj_CL 2 := by show (mj_CL0 ++ []) ++ _ = mj_CL0 ++ _; rw [List.append_nil]; rfl
theorem mj_CL13 : mj_CL 1 ++ [(100, 4096)] = mj_CL 3 := by show (mj_CL0 ++ [(101, 4096)]) ++ _ = mj_CL0 ++ _; rw [List.append_assoc]; rfl
theorem mj_CL24 : mj_CL 2 ++ [(101, 4096)] = mj_CL 4 := by show (mj_CL0 ++ [(100, 4096)]) ++ _ = mj_CL0 ++ _; rw [List.append_assoc]; rfl
theorem mj_HR01 (w : Nat) : mj_u (mj_ur (mj_HR w 0) 242 (fun _ => .null)) 189 4 (.ref 242) = mj_HR w 1 := by
  funext a k
  unfold mj_u mj_ur mj_HR
  by_cases q4 : a = 189 ∧ k = 4
  · rw [if_pos q4]; obtain ⟨rfl, rfl⟩ := q4; rfl
  · by_cases q2 : a = 242
    · subst q2; rw [if_neg (by omega), if_pos rfl]; rfl
    · by_cases q1 : a = 159 ∧ k = 6
      · simp only [if_neg q4, if_neg q2, if_pos q1]
      · by_cases q5 : a = 189 ∧ k = 5
        · simp only [if_neg q4, if_neg q2, if_neg q1, if_pos q5]; rfl
        · rw [if_neg q4, if_neg q2, if_neg q1, if_neg q1, if_neg q4, if_neg q4, if_neg q5, if_neg q5, if_neg (by omega), if_neg (by omega)]
theorem mj_HR02 (w : Nat) : mj_u (mj_ur (mj_HR w 0) 242 (fun _ => .null)) 189 5 (.ref 242) = mj_HR w 2 := by
  funext a k
  unfold mj_u mj_ur mj_HR
  by_cases q5 : a = 189 ∧ k = 5
  · rw [if_pos q5]; obtain ⟨rfl, rfl⟩ := q5; rfl
  · by_cases q2 : a = 242
    · subst q2; rw [if_neg (by omega), if_pos rfl]; rfl
    · by_cases q1 : a = 159 ∧ k = 6
      · simp only [if_neg q5, if_neg q2, if_pos q1]
      · by_cases q4 : a = 189 ∧ k = 4
        · simp only [if_neg q5, if_neg q2, if_neg q1, if_pos q4]; rfl
        · rw [if_neg q5, if_neg q2, if_neg q1, if_neg q1, if_neg q4, if_neg q4, if_neg q5, if_neg q5, if_neg (by omega), if_neg (by omega)]
theorem mj_HR13 (w : Nat) : mj_u (mj_ur (mj_HR w 1) 243 (fun _ => .null)) 189 5 (.ref 243) = mj_HR w 3 := by
  funext a k
  unfold mj_u mj_ur mj_HR
  by_cases q5 : a = 189 ∧ k = 5
  · rw [if_pos q5]; obtain ⟨rfl, rfl⟩ := q5; rfl
  · by_cases q2 : a = 243
    · subst q2; rw [if_neg (by omega), if_pos rfl]; rfl
    · by_cases q1 : a = 159 ∧ k = 6
      · simp only [if_neg q5, if_neg q2, if_pos q1]
      · by_cases q4 : a = 189 ∧ k = 4
        · simp only [if_neg q5, if_neg q2, if_neg q1, if_pos q4]; rfl
        · rw [if_neg q5, if_neg q2, if_neg q1, if_neg q1, if_neg q4, if_neg q4, if_neg q5, if_neg q5]
          by_cases q6 : a = 242
          · rw [if_pos (by omega), if_pos (by omega)]
          · rw [if_neg (by omega), if_neg (by omega)]
theorem mj_HR24 (w : Nat) : mj_u (mj_ur (mj_HR w 2) 243 (fun _ => .null)) 189 4 (.ref 243) = mj_HR w 4 := by
  funext a k
  unfold mj_u mj_ur mj_HR
  by_cases q4 : a = 189 ∧ k = 4
  · rw [if_pos q4]; obtain ⟨rfl, rfl⟩ := q4; rfl
  · by_cases q2 : a = 243
    · subst q2; rw [if_neg (by omega), if_pos rfl]; rfl
    · by_cases q1 : a = 159 ∧ k = 6
      · simp only [if_neg q4, if_neg q2, if_pos q1]
      · by_cases q5 : a = 189 ∧ k = 5
        · simp only [if_neg q4, if_neg q2, if_neg q1, if_pos q5]; rfl
        · rw [if_neg q4, if_neg q2, if_neg q1, if_neg q1, if_neg q4, if_neg q4, if_neg q5, if_neg q5]
          by_cases q6 : a = 242
          · rw [if_pos (by omega), if_pos (by omega)]
          · rw [if_neg (by omega), if_neg (by omega)]
/-- a row is made -/
theorem mj_hwnew {w c c' kd N q kk : Nat} {hi : mj_HI} {hl : Nat → Nat → Int64} (hq : (mj_CL c).length = q) (hC : mj_CL c ++ [(kd, N)] = mj_CL c') (hR : mj_u (mj_ur (mj_HR w c) q (fun _ => .null)) 189 kk (.ref q) = mj_HR w c') : mj_wr (mj_u (mj_new kd N (mj_hw w c hi hl)).2.2.1 189 kk (.ref q)) (mj_new kd N (mj_hw w c hi hl)) = mj_hw w c' (mj_ur hi q (fun _ => 0)) (mj_ur hl q (fun _ => 0)) := by
  subst hq
  show (mj_ur hi (mj_CL c).length (fun _ => 0), mj_ur hl (mj_CL c).length (fun _ => 0), mj_u (mj_ur (mj_HR w c) (mj_CL c).length (fun _ => .null)) 189 kk (.ref (mj_CL c).length), mj_CL c ++ [(kd, N)]) = _
  rw [hC, hR]; rfl
theorem mj_kdn {w c kd N a q n : Nat} {hi : mj_HI} {hl : Nat → Nat → Int64} (h : mj_nth (mj_CL c) a = (q, n)) (hq : q ≠ 999) : mj_kd (mj_new kd N (mj_hw w c hi hl)) a = q := by
  show (mj_nth (mj_CL c ++ [(kd, N)]) a).1 = q
  rw [mj_nth_ap2 (by rw [h]; intro z; exact hq (congrArg Prod.fst z)), h]
section MJ60b
variable {E : mj_E} {d w : Nat} {hi : mj_HI} {hl : Nat → Nat → Int64}
theorem r85_0 {c q c' : Nat} (hn : mj_HR w c 189 4 = .null) (hq : (mj_CL c).length = q) (hk : mj_nth (mj_CL c) 189 = (8, 6)) (hC : mj_CL c ++ [(101, 4096)] = mj_CL c') (hR : mj_u (mj_ur (mj_HR w c) q (fun _ => .null)) 189 4 (.ref q) = mj_HR w c') : mj_den mj_P E d 85 0 [.ref 189] [] (mj_hw w c hi hl) = mj_den mj_P E d 85 16 [.ref 189] [] (mj_hw w c' (mj_ur hi q (fun _ => 0)) (mj_ur hl q (fun _ => 0))) := by
  rw [mj_den_eq, f85_0]
  exact zt_aload_n rfl rfl (zt_getn (mj_kdw hk) hn rfl (zt_nnn rfl (zt_aload_n rfl rfl (zt_sipush rfl (zt_newarr (N := 4096) (q := q) hq (by decide) (by decide) (by omega) rfl (zt_putr (mj_kdn hk (by omega)) (mj_hwnew hq hC hR) rfl (zt_end rfl)))))))
theorem r86_0 {c q c' : Nat} (hn : mj_HR w c 189 5 = .null) (hq : (mj_CL c).length = q) (hk : mj_nth (mj_CL c) 189 = (8, 6)) (hC : mj_CL c ++ [(100, 4096)] = mj_CL c') (hR : mj_u (mj_ur (mj_HR w c) q (fun _ => .null)) 189 5 (.ref q) = mj_HR w c') : mj_den mj_P E d 86 0 [.ref 189] [] (mj_hw w c hi hl) = mj_den mj_P E d 86 16 [.ref 189] [] (mj_hw w c' (mj_ur hi q (fun _ => 0)) (mj_ur hl q (fun _ => 0))) := by
  rw [mj_den_eq, f86_0]
  exact zt_aload_n rfl rfl (zt_getn (mj_kdw hk) hn rfl (zt_nnn rfl (zt_aload_n rfl rfl (zt_sipush rfl (zt_newarr (N := 4096) (q := q) hq (by decide) (by decide) (by omega) rfl (zt_putr (mj_kdn hk (by omega)) (mj_hwnew hq hC hR) rfl (zt_end rfl)))))))
/-- the row of parts, made or there -/
theorem s_parts {c : Nat} (hc : c ≤ 4) : ∃ (P c' : Nat) (hi' : mj_HI) (hl' : Nat → Nat → Int64), mj_dc mj_P E (d + 1) 86 [.ref 189] (mj_hw w c hi hl) = some (some (.ref P), mj_hw w c' hi' hl') ∧ c' ≤ 4 ∧ 242 ≤ P ∧ mj_nth (mj_CL c') P = (100, 4096) ∧ (∀ a k, a < 242 → hi' a k = hi a k) ∧ (∀ a k, a < 242 → hl' a k = hl a k) ∧ ∀ S, mj_nth (mj_CL c) S = (101, 4096) → mj_nth (mj_CL c') S = (101, 4096) := by
  have : c = 0 ∨ c = 1 ∨ c = 2 ∨ c = 3 ∨ c = 4 := by omega
  rcases this with rfl | rfl | rfl | rfl | rfl
  · refine ⟨242, 2, mj_ur hi 242 (fun _ => 0), mj_ur hl 242 (fun _ => 0), ?_, Nat.le_of_ble_eq_true rfl, Nat.le_of_ble_eq_true rfl, rfl, fun a k h => by rw [mj_ur_row (by omega)], fun a k h => if_neg (by omega), fun S h => ?_⟩
    · rw [e86, r86_0 rfl mj_CLlen.1 rfl mj_CL02 (mj_HR02 w), q86_16_2]
    · rw [← mj_CL02, mj_nth_ap2 (by rw [h]; decide), h]
  · refine ⟨243, 3, mj_ur hi 243 (fun _ => 0), mj_ur hl 243 (fun _ => 0), ?_, Nat.le_of_ble_eq_true rfl, Nat.le_of_ble_eq_true rfl, rfl, fun a k h => by rw [mj_ur_row (by omega)], fun a k h => if_neg (by omega), fun S h => ?_⟩
    · rw [e86, r86_0 rfl mj_CLlen.2.1 rfl mj_CL13 (mj_HR13 w), q86_16_1]
    · rw [← mj_CL13, mj_nth_ap2 (by rw [h]; decide), h]
  · exact ⟨242, 2, hi, hl, by rw [e86, q86_0_2, q86_16_2], Nat.le_of_ble_eq_true rfl, Nat.le_of_ble_eq_true rfl, rfl, fun _ _ _ => rfl, fun _ _ _ => rfl, fun _ h => h⟩
  · exact ⟨243, 3, hi, hl, by rw [e86, q86_0_1, q86_16_1], Nat.le_of_ble_eq_true rfl, Nat.le_of_ble_eq_true rfl, rfl, fun _ _ _ => rfl, fun _ _ _ => rfl, fun _ h => h⟩
  · exact ⟨242, 4, hi, hl, by rw [e86, q86_0, q86_16], Nat.le_of_ble_eq_true rfl, Nat.le_of_ble_eq_true rfl, rfl, fun _ _ _ => rfl, fun _ _ _ => rfl, fun _ h => h⟩
/-- the row of sums, made or there -/
theorem s_sums {c : Nat} (hc : c ≤ 4) : ∃ (S c' : Nat) (hi' : mj_HI) (hl' : Nat → Nat → Int64), mj_dc mj_P E (d + 1) 85 [.ref 189] (mj_hw w c hi hl) = some (some (.ref S), mj_hw w c' hi' hl') ∧ c' ≤ 4 ∧ 242 ≤ S ∧ mj_nth (mj_CL c') S = (101, 4096) ∧ (∀ a k, a < 242 → hi' a k = hi a k) ∧ (∀ a k, a < 242 → hl' a k = hl a k) := by
  have : c = 0 ∨ c = 1 ∨ c = 2 ∨ c = 3 ∨ c = 4 := by omega
  rcases this with rfl | rfl | rfl | rfl | rfl
  · refine ⟨242, 1, mj_ur hi 242 (fun _ => 0), mj_ur hl 242 (fun _ => 0), ?_, Nat.le_of_ble_eq_true rfl, Nat.le_of_ble_eq_true rfl, rfl, fun a k h => by rw [mj_ur_row (by omega)], fun a k h => if_neg (by omega)⟩
    rw [e85, r85_0 rfl mj_CLlen.1 rfl mj_CL01 (mj_HR01 w), q85_16_2]
  · exact ⟨242, 1, hi, hl, by rw [e85, q85_0_2, q85_16_2], Nat.le_of_ble_eq_true rfl, Nat.le_of_ble_eq_true rfl, rfl, fun _ _ _ => rfl, fun _ _ _ => rfl⟩
  · refine ⟨243, 4, mj_ur hi 243 (fun _ => 0), mj_ur hl 243 (fun _ => 0), ?_, Nat.le_of_ble_eq_true rfl, Nat.le_of_ble_eq_true rfl, rfl, fun a k h => by rw [mj_ur_row (by omega)], fun a k h => if_neg (by omega)⟩
    rw [e85, r85_0 rfl mj_CLlen.2.2 rfl mj_CL24 (mj_HR24 w), q85_16]
  · exact ⟨242, 3, hi, hl, by rw [e85, q85_0_1, q85_16_1], Nat.le_of_ble_eq_true rfl, Nat.le_of_ble_eq_true rfl, rfl, fun _ _ _ => rfl, fun _ _ _ => rfl⟩
  · exact ⟨243, 4, hi, hl, by rw [e85, q85_0, q85_16], Nat.le_of_ble_eq_true rfl, Nat.le_of_ble_eq_true rfl, rfl, fun _ _ _ => rfl, fun _ _ _ => rfl⟩
end MJ60b
/-- the union of the rows of a set -/
def wc_u (x : Nat → Nat) (s : Nat) : Nat → Nat
  | 0 => 0
  | i + 1 => wc_u x s i ||| (if s.testBit i = true then x i else 0)
theorem wc_u_s (x : Nat → Nat) (s i : Nat) : wc_u x s (i + 1) = wc_u x s i ||| (if s.testBit i = true then x i else 0) := rfl
theorem wc_u_bit (x : Nat → Nat) (s j : Nat) : ∀ m, (wc_u x s m).testBit j = true ↔ ∃ i, i < m ∧ s.testBit i = true ∧ (x i).testBit j = true := by
  intro m
  induction m with
  | zero => simp [wc_u]
  | succ m ih =>
    rw [wc_u_s, Nat.testBit_or, Bool.or_eq_true, ih]
    constructor
    · rintro (⟨i, h1, h2, h3⟩ | h)
      · exact ⟨i, by omega, h2, h3⟩
      · by_cases hb : s.testBit m = true
        · rw [if_pos hb] at h; exact ⟨m, by omega, hb, h⟩
        · rw [if_neg hb, Nat.zero_testBit] at h; cases h
    · rintro ⟨i, h1, h2, h3⟩
      by_cases him : i = m
      · subst him; rw [if_pos h2]; exact Or.inr h3
      · exact Or.inl ⟨i, by omega, h2, h3⟩
theorem wc_tz : ∀ s, s < 4096 → s ≠ 0 → s.testBit (mj_tz s) = true ∧ mj_tz s < 12 := mj_4096 (by decide +kernel)
theorem wc_low : ∀ s, s < 4096 → s ≠ 0 → ∀ i, i < 12 → (s &&& (s - 1)).testBit i = (s.testBit i && decide (i ≠ mj_tz s)) := mj_4096 (by decide +kernel)
theorem wc_tzm {s m : Nat} (hm : m ≤ 12) (hs : s < 2 ^ m) (h0 : s ≠ 0) : mj_tz s < m := by
  have h2 : 2 ^ m ≤ 4096 := Nat.pow_le_pow_right (n := 2) (by omega) hm
  obtain ⟨h3, _⟩ := wc_tz s (by omega) h0
  refine Nat.lt_of_not_le (fun h => ?_)
  rw [Nat.testBit_lt_two_pow (Nat.lt_of_lt_of_le hs (Nat.pow_le_pow_right (by omega) h))] at h3
  cases h3
theorem wc_step {x : Nat → Nat} {s m : Nat} (hm : m ≤ 12) (hs : s < 2 ^ m) (h0 : s ≠ 0) : wc_u x (s &&& (s - 1)) m ||| x (mj_tz s) = wc_u x s m := by
  have h2 : 2 ^ m ≤ 4096 := Nat.pow_le_pow_right (n := 2) (by omega) hm
  have ht := wc_tzm hm hs h0
  have hz := (wc_tz s (by omega) h0).1
  apply Nat.eq_of_testBit_eq
  intro j
  rw [Bool.eq_iff_iff, Nat.testBit_or, Bool.or_eq_true, wc_u_bit, wc_u_bit]
  constructor
  · rintro (⟨i, h1, h3, h4⟩ | h)
    · rw [wc_low s (by omega) h0 i (by omega), Bool.and_eq_true] at h3
      exact ⟨i, h1, h3.1, h4⟩
    · exact ⟨_, ht, hz, h⟩
  · rintro ⟨i, h1, h3, h4⟩
    by_cases hi : i = mj_tz s
    · subst hi; exact Or.inr h4
    · refine Or.inl ⟨i, h1, ?_, h4⟩
      rw [wc_low s (by omega) h0 i (by omega), h3, decide_eq_true hi]; rfl
theorem wc_u0 (x : Nat → Nat) (m : Nat) : wc_u x 0 m = 0 := by
  induction m with
  | zero => rfl
  | succ m ih => rw [wc_u_s, ih, Nat.zero_testBit, if_neg (by decide)]; rfl
theorem wc_u_lt {x : Nat → Nat} {s m b : Nat} (h : ∀ i, i < m → x i < 2 ^ b) : wc_u x s m < 2 ^ b := by
  refine Nat.lt_pow_two_of_testBit _ (fun j hj => ?_)
  cases hb : (wc_u x s m).testBit j with
  | false => rfl
  | true =>
    obtain ⟨i, h1, _, h3⟩ := (wc_u_bit x s j m).mp hb
    rw [Nat.testBit_lt_two_pow (Nat.lt_of_lt_of_le (h i h1) (Nat.pow_le_pow_right (by omega) hj))] at h3
    cases h3
/-- the fewest that cover, the least of several, of the sets below s -/
def wc_f (U : Nat → Nat) (W : Nat) : Nat → Int32
  | 0 => -1
  | s + 1 => if (wc_f U W s = -1 ∨ mj_pc 12 s < mj_pc 12 (wc_f U W s).toNatClampNeg) ∧ mj_df W (U s) = 0 then nI s else wc_f U W s
theorem wc_f_s (U : Nat → Nat) (W s : Nat) : wc_f U W (s + 1) = if (wc_f U W s = -1 ∨ mj_pc 12 s < mj_pc 12 (wc_f U W s).toNatClampNeg) ∧ mj_df W (U s) = 0 then nI s else wc_f U W s := rfl
theorem wc_f_lt (U : Nat → Nat) (W : Nat) : ∀ s, wc_f U W s = -1 ∨ ∃ f, f < s ∧ wc_f U W s = nI f := by
  intro s
  induction s with
  | zero => exact Or.inl rfl
  | succ s ih =>
    rw [wc_f_s]
    split
    · exact Or.inr ⟨s, by omega, rfl⟩
    · rcases ih with h | ⟨f, h1, h2⟩
      · exact Or.inl h
      · exact Or.inr ⟨f, by omega, h2⟩
theorem wc_f_congr {U V : Nat → Nat} {W : Nat} : ∀ s, (∀ t, t < s → U t = V t) → wc_f U W s = wc_f V W s := by
  intro s
  induction s with
  | zero => intro _; rfl
  | succ s ih => intro h; rw [wc_f_s, wc_f_s, ih (fun t ht => h t (by omega)), h s (by omega)]
theorem mj_pcb (s : Nat) : mj_pc 12 s ≤ 12 := iv_cnt_bd _ _
section MJ60c
variable {E : mj_E} {d w c : Nat} {hi : mj_HI} {hl : Nat → Nat → Int64}
theorem s_fewL {R nR P W m : Nat} {x : Nat → Nat} (hR : mj_nth (mj_CL c) R = (100, nR)) (hP : mj_nth (mj_CL c) P = (100, 4096)) (hne : R ≠ P) (m12 : m ≤ 12) (mR : m ≤ nR) (hnR : nR < 100) (hW : W < 4096) (hx : ∀ i, i < m → hi R i = nI (x i) ∧ x i < 4096) (h0 : hi P 0 = 0) (u7 u8 : Value) : ∃ g, mj_den mj_P E (d + 1) 89 17 [.ref 189, .int (nI W), .ref R, .int (nI m), .ref P, .int (-1), .int 0, u7, u8] [] (mj_hw w c hi hl) = some (some (.int (wc_f (fun t => wc_u x t m) W (2 ^ m))), mj_hw w c g hl) ∧ ∀ a k, a ≠ P → g a k = hi a k := by
  have h2 : 2 ^ m ≤ 4096 := Nat.pow_le_pow_right (n := 2) (by omega) m12
  have hux : ∀ t, wc_u x t m < 4096 := fun t => wc_u_lt (b := 12) (fun i hi => (hx i hi).2)
  have key := lp_ex (fun s (q : Value × Value × mj_HI) => mj_den mj_P E (d + 1) 89 17 [.ref 189, .int (nI W), .ref R, .int (nI m), .ref P, .int (wc_f (fun t => wc_u x t m) W s), .int (nI s), q.1, q.2.1] [] (mj_hw w c q.2.2 hl)) (fun s q => (∀ t, t < s → q.2.2 P t = nI (wc_u x t m)) ∧ q.2.2 P 0 = 0 ∧ ∀ a k, a ≠ P → q.2.2 a k = hi a k) (2 ^ m) (fun s q hs hI => ?_) (u7, u8, hi) ⟨fun t ht => absurd ht (by omega), h0, fun _ _ _ => rfl⟩
  · obtain ⟨⟨v7, v8, g⟩, e, g1, g2, g3⟩ := key
    refine ⟨g, ?_, g3⟩
    refine Eq.trans e ?_
    show mj_den mj_P E (d + 1) 89 17 [.ref 189, .int (nI W), .ref R, .int (nI m), .ref P, .int (wc_f (fun t => wc_u x t m) W (2 ^ m)), .int (nI (2 ^ m)), v7, v8] [] (mj_hw w c g hl) = _
    rw [g89_17 hR hP, bx_one m (by omega), if_pos (Int32.le_refl _), g89_126 hR hP]
  · obtain ⟨v7, v8, g⟩ := q
    obtain ⟨g1, g2, g3⟩ := hI
    simp only at g1 g2 g3
    -- behind the row of this set
    have hA : ∃ g' v7', mj_den mj_P E (d + 1) 89 17 [.ref 189, .int (nI W), .ref R, .int (nI m), .ref P, .int (wc_f (fun t => wc_u x t m) W s), .int (nI s), v7, v8] [] (mj_hw w c g hl) = mj_den mj_P E (d + 1) 89 73 [.ref 189, .int (nI W), .ref R, .int (nI m), .ref P, .int (wc_f (fun t => wc_u x t m) W s), .int (nI s), .int v7', v8] [] (mj_hw w c g' hl) ∧ (∀ t, t < s + 1 → g' P t = nI (wc_u x t m)) ∧ g' P 0 = 0 ∧ ∀ a k, a ≠ P → g' a k = hi a k := by
      have e4096 : Int32.ofNat 4096 = nI 4096 := rfl
      have enR : Int32.ofNat nR = nI nR := rfl
      by_cases hs0 : s = 0
      · subst hs0
        refine ⟨g, nI 32, ?_, fun t ht => ?_, g2, g3⟩
        · have ez : mj_dc mj_P E (d + 1) 292 [.int (nI 0)] (mj_hw w c g hl) = some (some (.int (nI 32)), mj_hw w c g hl) := s_tz (s := 0) (by omega)
          rw [g89_17 hR hP, bx_one m (by omega), e4096]
          simp (disch := omega) only [↓reduceIte, Bool.false_eq_true, eq_self, mj_10, mj_01, mj_n10, mj_0n1, mj_1n1, mj_n11, mj_bi_some, mj_bv_some, mj_bj_some, mj_br_some, mj_r0, mj_r1, mj_q0, mj_q1, mj_b01, mj_q2, if_true, if_false, mj_it, mj_if, true_and, and_true, false_and, and_false, not_true_eq_false, not_false_eq_true, true_or, or_true, false_or, or_false, mj_nIle, mj_nIlt, mj_nIeq, mj_nI0, mj_nIc, mj_nIadd, mj_nIs, mj_ez, mj_ze, mj_eo, mj_ltz, mj_lez, mj_zlt, mj_olt, mj_lto, mj_leo, mj_ole, mj_nIn, mj_nnI, nl_2, nl_3, nl_4, nl_5, nl_6, nl_7, nl_8, nl_9, nl_10, nl_11, nl_12, nl_13, nl_14, nl_15, nl_16, nl_17, nl_18, nl_19, nl_20, nl_21, nl_22, nl_23, nl_24, nl_25, nl_26, nl_27, nl_28, nl_29, nl_30, nl_32, nl_33, nl_34, nl_35, nl_36, nl_37, nl_38, nl_39, nl_40, nl_41, nl_42, nl_43, nl_44, nl_45, nl_46, nl_47, nl_48, nl_49, nl_50, nl_51, nl_52, nl_53, nl_54, nl_55, nl_56, nl_57, nl_58, nl_59, nl_60, nl_61, nl_62, nl_64, nl_65, nl_66, nl_67, nl_68, nl_69, nl_92, nl_97, nl_99, nl_100, nl_122, nl_127, nl_128, nl_131, nl_132, nl_150, nl_200, nl_255, nl_256, nl_300, nl_342, nl_380, nl_381, nl_400, nl_401, nl_420, nl_500, nl_600, nl_800, nl_999, nl_1000, nl_1023, nl_1024, nl_1200, nl_2048, nl_2100, nl_4096, nl_9999, nl_10000, nl_10240, nl_999999, nl_1000000, if_pos, if_neg, ez, g89_38 hR hP]
        · rw [show t = 0 by omega, wc_u0, g2]; rfl
      · have ht := wc_tzm m12 hs hs0
        have ht2 := (wc_tz s (by omega) hs0).2
        have hlt := (mj_pc_dec s (by omega) hs0).2
        have hw := wc_step (x := x) m12 hs hs0
        obtain ⟨x1, x2⟩ := hx (mj_tz s) ht
        have gR : g R (mj_tz s) = nI (x (mj_tz s)) := by rw [g3 _ _ hne]; exact x1
        have gs := g1 (s &&& (s - 1)) (by omega)
        refine ⟨mj_u g P s (nI (wc_u x s m)), nI (mj_tz s), ?_, fun t h => ?_, ?_, fun a k ha => by rw [mj_u_pt (Or.inl ha)]; exact g3 a k ha⟩
        · have ez : mj_dc mj_P E (d + 1) 292 [.int (nI s)] (mj_hw w c g hl) = some (some (.int (nI (mj_tz s))), mj_hw w c g hl) := s_tz (s := s) (by omega)
          have e1 : nI s &&& (nI s - 1) = nI (s &&& (s - 1)) := by rw [mj_nIp (by omega), bx_and]
          rw [g89_17 hR hP, bx_one m (by omega), e4096]
          simp (disch := omega) only [↓reduceIte, Bool.false_eq_true, eq_self, mj_10, mj_01, mj_n10, mj_0n1, mj_1n1, mj_n11, mj_bi_some, mj_bv_some, mj_bj_some, mj_br_some, mj_r0, mj_r1, mj_q0, mj_q1, mj_b01, mj_q2, if_true, if_false, mj_it, mj_if, true_and, and_true, false_and, and_false, not_true_eq_false, not_false_eq_true, true_or, or_true, false_or, or_false, mj_nIle, mj_nIlt, mj_nIeq, mj_nI0, mj_nIc, mj_nIadd, mj_nIs, mj_ez, mj_ze, mj_eo, mj_ltz, mj_lez, mj_zlt, mj_olt, mj_lto, mj_leo, mj_ole, mj_nIn, mj_nnI, nl_2, nl_3, nl_4, nl_5, nl_6, nl_7, nl_8, nl_9, nl_10, nl_11, nl_12, nl_13, nl_14, nl_15, nl_16, nl_17, nl_18, nl_19, nl_20, nl_21, nl_22, nl_23, nl_24, nl_25, nl_26, nl_27, nl_28, nl_29, nl_30, nl_32, nl_33, nl_34, nl_35, nl_36, nl_37, nl_38, nl_39, nl_40, nl_41, nl_42, nl_43, nl_44, nl_45, nl_46, nl_47, nl_48, nl_49, nl_50, nl_51, nl_52, nl_53, nl_54, nl_55, nl_56, nl_57, nl_58, nl_59, nl_60, nl_61, nl_62, nl_64, nl_65, nl_66, nl_67, nl_68, nl_69, nl_92, nl_97, nl_99, nl_100, nl_122, nl_127, nl_128, nl_131, nl_132, nl_150, nl_200, nl_255, nl_256, nl_300, nl_342, nl_380, nl_381, nl_400, nl_401, nl_420, nl_500, nl_600, nl_800, nl_999, nl_1000, nl_1023, nl_1024, nl_1200, nl_2048, nl_2100, nl_4096, nl_9999, nl_10000, nl_10240, nl_999999, nl_1000000, if_pos, if_neg, ez, g89_38 hR hP, enR, e1, gs, gR, bx_or, hw]
        · by_cases hts : t = s
          · subst hts; rw [mj_u_eq]
          · rw [mj_u_pt (Or.inr hts)]; exact g1 t (by omega)
        · rw [mj_u_pt (Or.inr (by omega))]; exact g2
    obtain ⟨g', v7', eA, a1, a2, a3⟩ := hA
    have gs := a1 s (by omega)
    have hcov : (nI W &&& (nI (wc_u x s m) ^^^ -1) = 0) = (mj_df W (wc_u x s m) = 0) := by
      rw [bx_df, mj_ez]
      have := mj_df_le W (wc_u x s m) (n := 12) hW
      omega
    have hp1 := mj_pcb s
    have bcs : mj_dc mj_P E (d + 1) 293 [.int (nI s)] (mj_hw w c g' hl) = some (some (.int (nI (mj_pc 12 s))), mj_hw w c g' hl) := s_bc (s := s) (by omega)
    show ∃ q' : Value × Value × mj_HI, mj_den mj_P E (d + 1) 89 17 [.ref 189, .int (nI W), .ref R, .int (nI m), .ref P, .int (wc_f (fun t => wc_u x t m) W s), .int (nI s), v7, v8] [] (mj_hw w c g hl) = mj_den mj_P E (d + 1) 89 17 [.ref 189, .int (nI W), .ref R, .int (nI m), .ref P, .int (wc_f (fun t => wc_u x t m) W (s + 1)), .int (nI (s + 1)), q'.1, q'.2.1] [] (mj_hw w c q'.2.2 hl) ∧ _
    rw [eA, wc_f_s]
    by_cases hc2 : mj_df W (wc_u x s m) = 0
    · rcases wc_f_lt (fun t => wc_u x t m) W s with hf | ⟨f, hf1, hf⟩
      · refine ⟨(.int v7', .int 1, g'), ?_, a1, a2, a3⟩
        rw [hf]
        simp (disch := omega) only [g89_0 hR hP, g89_4 hR hP, g89_73 hR hP, g89_84 hR hP, g89_89 hR hP, g89_92 hR hP, g89_96 hR hP, g89_97 hR hP, g89_120 hR hP, g89_126 hR hP, ↓reduceIte, Bool.false_eq_true, eq_self, mj_10, mj_01, mj_n10, mj_0n1, mj_1n1, mj_n11, mj_bi_some, mj_bv_some, mj_bj_some, mj_br_some, mj_r0, mj_r1, mj_q0, mj_q1, mj_b01, mj_q2, if_true, if_false, mj_it, mj_if, true_and, and_true, false_and, and_false, not_true_eq_false, not_false_eq_true, true_or, or_true, false_or, or_false, mj_nIle, mj_nIlt, mj_nIeq, mj_nI0, mj_nIc, mj_nIadd, mj_nIs, mj_ez, mj_ze, mj_eo, mj_ltz, mj_lez, mj_zlt, mj_olt, mj_lto, mj_leo, mj_ole, mj_nIn, mj_nnI, nl_2, nl_3, nl_4, nl_5, nl_6, nl_7, nl_8, nl_9, nl_10, nl_11, nl_12, nl_13, nl_14, nl_15, nl_16, nl_17, nl_18, nl_19, nl_20, nl_21, nl_22, nl_23, nl_24, nl_25, nl_26, nl_27, nl_28, nl_29, nl_30, nl_32, nl_33, nl_34, nl_35, nl_36, nl_37, nl_38, nl_39, nl_40, nl_41, nl_42, nl_43, nl_44, nl_45, nl_46, nl_47, nl_48, nl_49, nl_50, nl_51, nl_52, nl_53, nl_54, nl_55, nl_56, nl_57, nl_58, nl_59, nl_60, nl_61, nl_62, nl_64, nl_65, nl_66, nl_67, nl_68, nl_69, nl_92, nl_97, nl_99, nl_100, nl_122, nl_127, nl_128, nl_131, nl_132, nl_150, nl_200, nl_255, nl_256, nl_300, nl_342, nl_380, nl_381, nl_400, nl_401, nl_420, nl_500, nl_600, nl_800, nl_999, nl_1000, nl_1023, nl_1024, nl_1200, nl_2048, nl_2100, nl_4096, nl_9999, nl_10000, nl_10240, nl_999999, nl_1000000, if_pos, if_neg, gs, hcov, hc2, and_self, eq_self]
      · have bcf : mj_dc mj_P E (d + 1) 293 [.int (nI f)] (mj_hw w c g' hl) = some (some (.int (nI (mj_pc 12 f))), mj_hw w c g' hl) := s_bc (s := f) (by omega)
        have hp2 := mj_pcb f
        by_cases hlt : mj_pc 12 s < mj_pc 12 f
        · refine ⟨(.int v7', .int 1, g'), ?_, a1, a2, a3⟩
          rw [hf]
          simp (disch := omega) only [g89_0 hR hP, g89_4 hR hP, g89_73 hR hP, g89_84 hR hP, g89_89 hR hP, g89_92 hR hP, g89_96 hR hP, g89_97 hR hP, g89_120 hR hP, g89_126 hR hP, ↓reduceIte, Bool.false_eq_true, eq_self, mj_10, mj_01, mj_n10, mj_0n1, mj_1n1, mj_n11, mj_bi_some, mj_bv_some, mj_bj_some, mj_br_some, mj_r0, mj_r1, mj_q0, mj_q1, mj_b01, mj_q2, if_true, if_false, mj_it, mj_if, true_and, and_true, false_and, and_false, not_true_eq_false, not_false_eq_true, true_or, or_true, false_or, or_false, mj_nIle, mj_nIlt, mj_nIeq, mj_nI0, mj_nIc, mj_nIadd, mj_nIs, mj_ez, mj_ze, mj_eo, mj_ltz, mj_lez, mj_zlt, mj_olt, mj_lto, mj_leo, mj_ole, mj_nIn, mj_nnI, nl_2, nl_3, nl_4, nl_5, nl_6, nl_7, nl_8, nl_9, nl_10, nl_11, nl_12, nl_13, nl_14, nl_15, nl_16, nl_17, nl_18, nl_19, nl_20, nl_21, nl_22, nl_23, nl_24, nl_25, nl_26, nl_27, nl_28, nl_29, nl_30, nl_32, nl_33, nl_34, nl_35, nl_36, nl_37, nl_38, nl_39, nl_40, nl_41, nl_42, nl_43, nl_44, nl_45, nl_46, nl_47, nl_48, nl_49, nl_50, nl_51, nl_52, nl_53, nl_54, nl_55, nl_56, nl_57, nl_58, nl_59, nl_60, nl_61, nl_62, nl_64, nl_65, nl_66, nl_67, nl_68, nl_69, nl_92, nl_97, nl_99, nl_100, nl_122, nl_127, nl_128, nl_131, nl_132, nl_150, nl_200, nl_255, nl_256, nl_300, nl_342, nl_380, nl_381, nl_400, nl_401, nl_420, nl_500, nl_600, nl_800, nl_999, nl_1000, nl_1023, nl_1024, nl_1200, nl_2048, nl_2100, nl_4096, nl_9999, nl_10000, nl_10240, nl_999999, nl_1000000, if_pos, if_neg, gs, hcov, hc2, bcs, bcf, and_self, eq_self, hlt]
        · refine ⟨(.int v7', .int 0, g'), ?_, a1, a2, a3⟩
          rw [hf]
          simp (disch := omega) only [g89_0 hR hP, g89_4 hR hP, g89_73 hR hP, g89_84 hR hP, g89_89 hR hP, g89_92 hR hP, g89_96 hR hP, g89_97 hR hP, g89_120 hR hP, g89_126 hR hP, ↓reduceIte, Bool.false_eq_true, eq_self, mj_10, mj_01, mj_n10, mj_0n1, mj_1n1, mj_n11, mj_bi_some, mj_bv_some, mj_bj_some, mj_br_some, mj_r0, mj_r1, mj_q0, mj_q1, mj_b01, mj_q2, if_true, if_false, mj_it, mj_if, true_and, and_true, false_and, and_false, not_true_eq_false, not_false_eq_true, true_or, or_true, false_or, or_false, mj_nIle, mj_nIlt, mj_nIeq, mj_nI0, mj_nIc, mj_nIadd, mj_nIs, mj_ez, mj_ze, mj_eo, mj_ltz, mj_lez, mj_zlt, mj_olt, mj_lto, mj_leo, mj_ole, mj_nIn, mj_nnI, nl_2, nl_3, nl_4, nl_5, nl_6, nl_7, nl_8, nl_9, nl_10, nl_11, nl_12, nl_13, nl_14, nl_15, nl_16, nl_17, nl_18, nl_19, nl_20, nl_21, nl_22, nl_23, nl_24, nl_25, nl_26, nl_27, nl_28, nl_29, nl_30, nl_32, nl_33, nl_34, nl_35, nl_36, nl_37, nl_38, nl_39, nl_40, nl_41, nl_42, nl_43, nl_44, nl_45, nl_46, nl_47, nl_48, nl_49, nl_50, nl_51, nl_52, nl_53, nl_54, nl_55, nl_56, nl_57, nl_58, nl_59, nl_60, nl_61, nl_62, nl_64, nl_65, nl_66, nl_67, nl_68, nl_69, nl_92, nl_97, nl_99, nl_100, nl_122, nl_127, nl_128, nl_131, nl_132, nl_150, nl_200, nl_255, nl_256, nl_300, nl_342, nl_380, nl_381, nl_400, nl_401, nl_420, nl_500, nl_600, nl_800, nl_999, nl_1000, nl_1023, nl_1024, nl_1200, nl_2048, nl_2100, nl_4096, nl_9999, nl_10000, nl_10240, nl_999999, nl_1000000, if_pos, if_neg, gs, hcov, hc2, bcs, bcf, and_self, eq_self, hlt]
    · rcases wc_f_lt (fun t => wc_u x t m) W s with hf | ⟨f, hf1, hf⟩
      · refine ⟨(.int v7', .int 1, g'), ?_, a1, a2, a3⟩
        rw [hf]
        simp (disch := omega) only [g89_0 hR hP, g89_4 hR hP, g89_73 hR hP, g89_84 hR hP, g89_89 hR hP, g89_92 hR hP, g89_96 hR hP, g89_97 hR hP, g89_120 hR hP, g89_126 hR hP, ↓reduceIte, Bool.false_eq_true, eq_self, mj_10, mj_01, mj_n10, mj_0n1, mj_1n1, mj_n11, mj_bi_some, mj_bv_some, mj_bj_some, mj_br_some, mj_r0, mj_r1, mj_q0, mj_q1, mj_b01, mj_q2, if_true, if_false, mj_it, mj_if, true_and, and_true, false_and, and_false, not_true_eq_false, not_false_eq_true, true_or, or_true, false_or, or_false, mj_nIle, mj_nIlt, mj_nIeq, mj_nI0, mj_nIc, mj_nIadd, mj_nIs, mj_ez, mj_ze, mj_eo, mj_ltz, mj_lez, mj_zlt, mj_olt, mj_lto, mj_leo, mj_ole, mj_nIn, mj_nnI, nl_2, nl_3, nl_4, nl_5, nl_6, nl_7, nl_8, nl_9, nl_10, nl_11, nl_12, nl_13, nl_14, nl_15, nl_16, nl_17, nl_18, nl_19, nl_20, nl_21, nl_22, nl_23, nl_24, nl_25, nl_26, nl_27, nl_28, nl_29, nl_30, nl_32, nl_33, nl_34, nl_35, nl_36, nl_37, nl_38, nl_39, nl_40, nl_41, nl_42, nl_43, nl_44, nl_45, nl_46, nl_47, nl_48, nl_49, nl_50, nl_51, nl_52, nl_53, nl_54, nl_55, nl_56, nl_57, nl_58, nl_59, nl_60, nl_61, nl_62, nl_64, nl_65, nl_66, nl_67, nl_68, nl_69, nl_92, nl_97, nl_99, nl_100, nl_122, nl_127, nl_128, nl_131, nl_132, nl_150, nl_200, nl_255, nl_256, nl_300, nl_342, nl_380, nl_381, nl_400, nl_401, nl_420, nl_500, nl_600, nl_800, nl_999, nl_1000, nl_1023, nl_1024, nl_1200, nl_2048, nl_2100, nl_4096, nl_9999, nl_10000, nl_10240, nl_999999, nl_1000000, if_pos, if_neg, gs, hcov, hc2, eq_self]
      · have bcf : mj_dc mj_P E (d + 1) 293 [.int (nI f)] (mj_hw w c g' hl) = some (some (.int (nI (mj_pc 12 f))), mj_hw w c g' hl) := s_bc (s := f) (by omega)
        have hp2 := mj_pcb f
        by_cases hlt : mj_pc 12 s < mj_pc 12 f
        · refine ⟨(.int v7', .int 1, g'), ?_, a1, a2, a3⟩
          rw [hf]
          simp (disch := omega) only [g89_0 hR hP, g89_4 hR hP, g89_73 hR hP, g89_84 hR hP, g89_89 hR hP, g89_92 hR hP, g89_96 hR hP, g89_97 hR hP, g89_120 hR hP, g89_126 hR hP, ↓reduceIte, Bool.false_eq_true, eq_self, mj_10, mj_01, mj_n10, mj_0n1, mj_1n1, mj_n11, mj_bi_some, mj_bv_some, mj_bj_some, mj_br_some, mj_r0, mj_r1, mj_q0, mj_q1, mj_b01, mj_q2, if_true, if_false, mj_it, mj_if, true_and, and_true, false_and, and_false, not_true_eq_false, not_false_eq_true, true_or, or_true, false_or, or_false, mj_nIle, mj_nIlt, mj_nIeq, mj_nI0, mj_nIc, mj_nIadd, mj_nIs, mj_ez, mj_ze, mj_eo, mj_ltz, mj_lez, mj_zlt, mj_olt, mj_lto, mj_leo, mj_ole, mj_nIn, mj_nnI, nl_2, nl_3, nl_4, nl_5, nl_6, nl_7, nl_8, nl_9, nl_10, nl_11, nl_12, nl_13, nl_14, nl_15, nl_16, nl_17, nl_18, nl_19, nl_20, nl_21, nl_22, nl_23, nl_24, nl_25, nl_26, nl_27, nl_28, nl_29, nl_30, nl_32, nl_33, nl_34, nl_35, nl_36, nl_37, nl_38, nl_39, nl_40, nl_41, nl_42, nl_43, nl_44, nl_45, nl_46, nl_47, nl_48, nl_49, nl_50, nl_51, nl_52, nl_53, nl_54, nl_55, nl_56, nl_57, nl_58, nl_59, nl_60, nl_61, nl_62, nl_64, nl_65, nl_66, nl_67, nl_68, nl_69, nl_92, nl_97, nl_99, nl_100, nl_122, nl_127, nl_128, nl_131, nl_132, nl_150, nl_200, nl_255, nl_256, nl_300, nl_342, nl_380, nl_381, nl_400, nl_401, nl_420, nl_500, nl_600, nl_800, nl_999, nl_1000, nl_1023, nl_1024, nl_1200, nl_2048, nl_2100, nl_4096, nl_9999, nl_10000, nl_10240, nl_999999, nl_1000000, if_pos, if_neg, gs, hcov, hc2, bcs, bcf, eq_self, hlt]
        · refine ⟨(.int v7', .int 0, g'), ?_, a1, a2, a3⟩
          rw [hf]
          simp (disch := omega) only [g89_0 hR hP, g89_4 hR hP, g89_73 hR hP, g89_84 hR hP, g89_89 hR hP, g89_92 hR hP, g89_96 hR hP, g89_97 hR hP, g89_120 hR hP, g89_126 hR hP, ↓reduceIte, Bool.false_eq_true, eq_self, mj_10, mj_01, mj_n10, mj_0n1, mj_1n1, mj_n11, mj_bi_some, mj_bv_some, mj_bj_some, mj_br_some, mj_r0, mj_r1, mj_q0, mj_q1, mj_b01, mj_q2, if_true, if_false, mj_it, mj_if, true_and, and_true, false_and, and_false, not_true_eq_false, not_false_eq_true, true_or, or_true, false_or, or_false, mj_nIle, mj_nIlt, mj_nIeq, mj_nI0, mj_nIc, mj_nIadd, mj_nIs, mj_ez, mj_ze, mj_eo, mj_ltz, mj_lez, mj_zlt, mj_olt, mj_lto, mj_leo, mj_ole, mj_nIn, mj_nnI, nl_2, nl_3, nl_4, nl_5, nl_6, nl_7, nl_8, nl_9, nl_10, nl_11, nl_12, nl_13, nl_14, nl_15, nl_16, nl_17, nl_18, nl_19, nl_20, nl_21, nl_22, nl_23, nl_24, nl_25, nl_26, nl_27, nl_28, nl_29, nl_30, nl_32, nl_33, nl_34, nl_35, nl_36, nl_37, nl_38, nl_39, nl_40, nl_41, nl_42, nl_43, nl_44, nl_45, nl_46, nl_47, nl_48, nl_49, nl_50, nl_51, nl_52, nl_53, nl_54, nl_55, nl_56, nl_57, nl_58, nl_59, nl_60, nl_61, nl_62, nl_64, nl_65, nl_66, nl_67, nl_68, nl_69, nl_92, nl_97, nl_99, nl_100, nl_122, nl_127, nl_128, nl_131, nl_132, nl_150, nl_200, nl_255, nl_256, nl_300, nl_342, nl_380, nl_381, nl_400, nl_401, nl_420, nl_500, nl_600, nl_800, nl_999, nl_1000, nl_1023, nl_1024, nl_1200, nl_2048, nl_2100, nl_4096, nl_9999, nl_10000, nl_10240, nl_999999, nl_1000000, if_pos, if_neg, gs, hcov, hc2, bcs, bcf, eq_self, hlt]
theorem s_few {R nR W m : Nat} {x : Nat → Nat} (hc : c ≤ 4) (hR : ∀ c, mj_nth (mj_CL c) R = (100, nR)) (hR2 : R < 242) (m12 : m ≤ 12) (mR : m ≤ nR) (hnR : nR < 100) (hW : W < 4096) (hx : ∀ i, i < m → hi R i = nI (x i) ∧ x i < 4096) : ∃ (c' : Nat) (g : mj_HI) (hl' : Nat → Nat → Int64), mj_dc mj_P E (d + 2) 89 [.ref 189, .int (nI W), .ref R, .int (nI m)] (mj_hw w c hi hl) = some (some (.int (wc_f (fun t => wc_u x t m) W (2 ^ m))), mj_hw w c' g hl') ∧ c' ≤ 4 ∧ ∀ a k, a < 242 → g a k = hi a k := by
  obtain ⟨P, c', f, hl', e, c4, hP2, hP, f1, f2, f3⟩ := id (s_parts (E := E) (d := d) (w := w) (hi := hi) (hl := hl) hc)
  have hne : R ≠ P := fun z => by subst z; exact absurd hR2 (Nat.not_lt.mpr hP2)
  obtain ⟨g, e2, g1⟩ := s_fewL (E := E) (d := d) (w := w) (c := c') (hi := mj_u f P 0 0) (hl := hl') (W := W) (m := m) (x := x) (hR c') hP hne m12 mR hnR hW (fun i hi => by rw [mj_u_pt (Or.inl hne), f1 _ _ hR2]; exact hx i hi) mj_u_eq (.float 0) (.float 0)
  refine ⟨c', g, hl', ?_, c4, fun a k ha => by have hap : a ≠ P := (fun z => by subst z; exact absurd ha (Nat.not_lt.mpr hP2)); rw [g1 a k hap, mj_u_pt (Or.inl hap), f1 a k ha]⟩
  have e' : mj_dc mj_P E (d + 1) 86 [.ref 189] (mj_hw w c hi hl) = _ := e
  have hPc : mj_nth (mj_CL 2) 242 = (100, 4096) := rfl
  rw [xg89 E (d + 1) R P]
  rw [mj_den_eq, f89_0]
  refine (zt_aload_n rfl rfl (zt_call0_3 (rest := []) rfl (mjkd189 _ _ _ _) (Nat.le_of_ble_eq_true rfl) rfl rfl)).trans ?_
  show mj_br (mj_dc mj_P E (d + 1) 86 [.ref 189] (mj_hw w c hi hl)) (fun x1 h1 => mj_den mj_P E (d + 1) 89 4 [.ref 189, .int (nI W), .ref R, .int (nI m), .float 0, .float 0, .float 0, .float 0, .float 0] [.ref x1] h1) = _
  rw [e', mj_br_some, g89_4 (hR c') hP, if_pos (by decide)]
  exact e2
end MJ60c
