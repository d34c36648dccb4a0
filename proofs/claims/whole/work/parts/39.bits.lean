/-! bits of ints; the first rows (bt, b_*, nx_*) are pasted from kit/laws -/
def bt (x : Int32) (i : Nat) : Bool := x.toBitVec.getLsbD i
theorem b_ext {x y : Int32} (h : ∀ i, i < 32 → bt x i = bt y i) : x = y := Int32.toBitVec_inj.mp (BitVec.eq_of_getLsbD_eq (fun i hi => h i hi))
theorem b_or (x y : Int32) (i : Nat) : bt (x ||| y) i = (bt x i || bt y i) := by unfold bt; rw [Int32.toBitVec_or, BitVec.getLsbD_or]
theorem b_and (x y : Int32) (i : Nat) : bt (x &&& y) i = (bt x i && bt y i) := by unfold bt; rw [Int32.toBitVec_and, BitVec.getLsbD_and]
theorem b_xor (x y : Int32) (i : Nat) : bt (x ^^^ y) i = (bt x i ^^ bt y i) := by unfold bt; rw [Int32.toBitVec_xor, BitVec.getLsbD_xor]
theorem b_big {x : Int32} {i : Nat} (h : 32 ≤ i) : bt x i = false := BitVec.getLsbD_of_ge _ _ h
theorem b_255 (i : Nat) : bt 255 i = decide (i < 8) := by
  rcases Nat.lt_or_ge i 32 with h | h
  · exact (by decide +kernel : ∀ i, i < 32 → bt 255 i = decide (i < 8)) i h
  · rw [b_big h, decide_eq_false (by omega)]
theorem b_65535 (i : Nat) : bt 65535 i = decide (i < 16) := by
  rcases Nat.lt_or_ge i 32 with h | h
  · exact (by decide +kernel : ∀ i, i < 32 → bt 65535 i = decide (i < 16)) i h
  · rw [b_big h, decide_eq_false (by omega)]
theorem b_m1 : ∀ i, i < 32 → bt (-1) i = true := by decide +kernel
theorem b_0 (i : Nat) : bt 0 i = false := BitVec.getLsbD_zero
theorem s_l : ∀ n, n < 32 → ((nI n &&& 31).toBitVec.smod 32).toNat = n := by decide +kernel
theorem s_u : ∀ n, n < 32 → (((nI n).toUInt32 &&& Int32.toUInt32 31).toBitVec % 32).toNat = n := by decide +kernel
theorem b_shl (n : Nat) (hn : n < 32) (x : Int32) {i : Nat} (hi : i < 32) : bt (x <<< (nI n &&& 31)) i = (decide (n ≤ i) && bt x (i - n)) := by
  unfold bt
  rw [Int32.toBitVec_shiftLeft]
  show (x.toBitVec <<< ((nI n &&& 31).toBitVec.smod 32).toNat).getLsbD i = _
  rw [s_l n hn, BitVec.getLsbD_shiftLeft]
  rcases Nat.lt_or_ge i n with h | h
  · simp [h, Nat.not_le.mpr h]
  · simp [hi, h, Nat.not_lt.mpr h]
theorem b_ushr (n : Nat) (hn : n < 32) (x : Int32) (i : Nat) : bt ((x.toUInt32 >>> ((nI n).toUInt32 &&& Int32.toUInt32 31)).toInt32) i = bt x (n + i) := by
  show (x.toUInt32 >>> ((nI n).toUInt32 &&& Int32.toUInt32 31)).toBitVec.getLsbD i = x.toUInt32.toBitVec.getLsbD (n + i)
  rw [UInt32.toBitVec_shiftRight]
  show (x.toUInt32.toBitVec >>> (((nI n).toUInt32 &&& Int32.toUInt32 31).toBitVec % 32).toNat).getLsbD i = _
  rw [s_u n hn, BitVec.getLsbD_ushiftRight]
theorem b_sshr (n : Nat) (hn : n < 32) (x : Int32) {i : Nat} (hi : i < 32) : bt (x >>> (nI n &&& 31)) i = if n + i < 32 then bt x (n + i) else bt x 31 := by
  unfold bt
  rw [Int32.toBitVec_shiftRight]
  show (x.toBitVec.sshiftRight ((nI n &&& 31).toBitVec.smod 32).toNat).getLsbD i = _
  rw [s_l n hn, BitVec.getLsbD_sshiftRight, BitVec.msb_eq_getLsbD_last]
  simp [hi]
theorem nx_and (a b : Nat) : nI a &&& nI b = nI (a &&& b) := by
  apply Int32.toBitVec_inj.1
  show BitVec.ofNat 32 a &&& BitVec.ofNat 32 b = BitVec.ofNat 32 (a &&& b)
  apply BitVec.eq_of_getLsbD_eq
  intro i hi
  simp [hi]
theorem nx_xor (a b : Nat) : nI a ^^^ nI b = nI (a ^^^ b) := by
  apply Int32.toBitVec_inj.1
  show BitVec.ofNat 32 a ^^^ BitVec.ofNat 32 b = BitVec.ofNat 32 (a ^^^ b)
  apply BitVec.eq_of_getLsbD_eq
  intro i hi
  simp [hi]
theorem bx_bt (a i : Nat) : bt (nI a) i = (decide (i < 32) && a.testBit i) := by
  unfold bt
  show (BitVec.ofNat 32 a).getLsbD i = _
  rw [BitVec.getLsbD_ofNat]
theorem bx_lt {s i : Nat} (hs : s < 2147483648) (hi : 31 ≤ i) : s.testBit i = false := by
  apply Nat.testBit_lt_two_pow
  have : (2 : Nat) ^ 31 ≤ 2 ^ i := Nat.pow_le_pow_right (by omega) hi
  omega
theorem bx_or (a b : Nat) : nI a ||| nI b = nI (a ||| b) := by
  apply b_ext
  intro i hi
  rw [b_or, bx_bt, bx_bt, bx_bt, Nat.testBit_or]; simp [hi]
theorem bx_and (a b : Nat) : nI a &&& nI b = nI (a &&& b) := nx_and a b
theorem bx_xor (a b : Nat) : nI a ^^^ nI b = nI (a ^^^ b) := nx_xor a b
theorem bx_one : ∀ k, k < 31 → (1 : Int32) <<< (nI k &&& 31) = nI (2 ^ k) := by decide +kernel
theorem bx_shr {s k : Nat} (hs : s < 2147483648) (hk : k < 32) : nI s >>> (nI k &&& 31) = nI (s >>> k) := by
  apply b_ext
  intro i hi
  rw [b_sshr k hk _ hi, bx_bt, bx_bt, bx_bt, Nat.testBit_shiftRight]
  by_cases h : k + i < 32
  · rw [if_pos h]; simp [h, hi]
  · rw [if_neg h, bx_lt hs (by omega), bx_lt hs (show 31 ≤ k + i by omega)]; simp
theorem bx_bit {s k : Nat} (hs : s < 2147483648) (hk : k < 32) : (nI s >>> (nI k &&& 31)) &&& 1 = nI (if s.testBit k = true then 1 else 0) := by
  rw [bx_shr hs hk, mj_oo, bx_and, Nat.and_one_is_mod]
  congr 1
  rw [Nat.testBit_eq_decide_div_mod_eq, Nat.shiftRight_eq_div_pow]
  have := Nat.mod_two_eq_zero_or_one (s / 2 ^ k)
  by_cases h : s / 2 ^ k % 2 = 1
  · rw [h]; simp
  · rw [if_neg (by simp [h])]; omega
/-- a without b -/
def mj_df (a b : Nat) : Nat := a ^^^ (a &&& b)
theorem mj_df_bit (a b i : Nat) : (mj_df a b).testBit i = (a.testBit i && !b.testBit i) := by
  unfold mj_df
  rw [Nat.testBit_xor, Nat.testBit_and]
  cases a.testBit i <;> cases b.testBit i <;> rfl
theorem bx_df (a b : Nat) : nI a &&& (nI b ^^^ (-1)) = nI (mj_df a b) := by
  apply b_ext
  intro i hi
  rw [b_and, b_xor, b_m1 i hi, bx_bt, bx_bt, bx_bt, mj_df_bit]
  simp [hi]
theorem mj_df_le (a b : Nat) {n : Nat} (h : a < 2 ^ n) : mj_df a b < 2 ^ n := by
  refine Nat.lt_pow_two_of_testBit _ (fun i hi => ?_)
  rw [mj_df_bit, Nat.testBit_lt_two_pow (Nat.lt_of_lt_of_le h (Nat.pow_le_pow_right (by omega) hi))]; rfl
section MJ39
variable {E : mj_E} {d w c : Nat} {hi : Nat → Nat → Int32} {hl : Nat → Nat → Int64}
theorem s_hX {s k : Nat} (hs : s < 2147483648) (hk : k < 32) : mj_dc mj_P E (d + 1) 148 [.int (nI s), .int (nI k)] (mj_hw w c hi hl) = some (some (.int (mj_b (s.testBit k = true))), mj_hw w c hi hl) := by
  rw [s_hasX]
  have : mj_b (¬ (nI s >>> (nI k &&& 31)) &&& 1 = 0) = mj_b (s.testBit k = true) := by
    apply mj_bc
    rw [bx_bit hs hk, mj_ez (by split <;> omega)]
    split <;> simp_all
  rw [this]
theorem s_hM {s k : Nat} (hs : s < 2147483648) (hk : k < 32) : mj_dc mj_P E (d + 1) 157 [.ref 205, .int (nI s), .int (nI k)] (mj_hw w c hi hl) = some (some (.int (mj_b (s.testBit k = true))), mj_hw w c hi hl) := by
  rw [s_hasM]
  have : mj_b ((nI s >>> (nI k &&& 31)) &&& 1 = 1) = mj_b (s.testBit k = true) := by
    apply mj_bc
    rw [bx_bit hs hk, mj_eo (by split <;> omega)]
    split <;> simp_all
  rw [this]
end MJ39
/-- a set of numbers below n -/
def mj_st (p : Nat → Bool) : Nat → Nat
  | 0 => 0
  | n + 1 => mj_st p n ||| (if p n = true then 2 ^ n else 0)
theorem mj_st_bit (p : Nat → Bool) (n k : Nat) : (mj_st p n).testBit k = (decide (k < n) && p k) := by
  induction n with
  | zero => unfold mj_st; simp
  | succ n ih =>
    unfold mj_st
    rw [Nat.testBit_or, ih]
    by_cases h : p n = true
    · rw [if_pos h, Nat.testBit_two_pow]
      by_cases hk : n = k
      · subst hk; simp [h]
      · have e : decide (k < n) = decide (k < n + 1) := decide_eq_decide.mpr (by omega)
        rw [e]; simp [hk]
    · rw [if_neg h, Nat.zero_testBit, Bool.or_false]
      by_cases hk : n = k
      · subst hk; simp at h; simp [h]
      · have e : decide (k < n) = decide (k < n + 1) := decide_eq_decide.mpr (by omega)
        rw [e]
theorem mj_st_lt (p : Nat → Bool) (n : Nat) : mj_st p n < 2 ^ n := by
  refine Nat.lt_pow_two_of_testBit _ (fun i hi => ?_)
  rw [mj_st_bit, decide_eq_false (by omega)]; rfl
theorem mj_st_congr {p q : Nat → Bool} (n : Nat) (h : ∀ k, k < n → p k = q k) : mj_st p n = mj_st q n := by
  induction n with
  | zero => rfl
  | succ n ih => unfold mj_st; rw [ih (fun k hk => h k (by omega)), h n (by omega)]
/-- how many members below n -/
def mj_pc (n s : Nat) : Nat := iv_cnt (fun i => s.testBit i) n
theorem iv_cnt_bd (p : Nat → Bool) (n : Nat) : iv_cnt p n ≤ n := by
  induction n with
  | zero => exact Nat.le_refl _
  | succ n ih => unfold iv_cnt; split <;> omega
theorem mj_4096 {P : Nat → Prop} (h : ∀ a, a < 64 → ∀ b, b < 64 → P (64 * a + b)) : ∀ s, s < 4096 → P s := by
  intro s hs
  have := h (s / 64) (by omega) (s % 64) (by omega)
  rw [show 64 * (s / 64) + s % 64 = s by omega] at this
  exact this
theorem mj_pc_dec : ∀ s, s < 4096 → s ≠ 0 → mj_pc 12 (s &&& (s - 1)) + 1 = mj_pc 12 s ∧ s &&& (s - 1) < s := mj_4096 (by decide +kernel)
theorem mj_pc0 : mj_pc 12 0 = 0 := rfl
section MJ39b
variable {E : mj_E} {d w c : Nat} {hi : Nat → Nat → Int32} {hl : Nat → Nat → Int64}
theorem s_onesL (s0 : Int32) : ∀ (s m : Nat), s < 4096 → mj_den mj_P E d 156 4 [.ref 205, .int s0, .int (nI m), .int (nI s)] [] (mj_hw w c hi hl) = some (some (.int (nI (m + mj_pc 12 s))), mj_hw w c hi hl) := by
  intro s
  induction s using Nat.strongRecOn with
  | ind s ih =>
    intro m hs
    rw [q156_4]
    by_cases h : s = 0
    · subst h; rw [if_pos (show nI 0 = 0 from rfl), q156_21]; rfl
    · obtain ⟨h1, h2⟩ := mj_pc_dec s hs h
      rw [if_neg (by rw [mj_ez (by omega)]; exact h), mj_nIs, mj_nIp (by omega), bx_and, ih _ h2 (m + 1) (by omega), show m + 1 + mj_pc 12 (s &&& (s - 1)) = m + mj_pc 12 s by omega]
theorem s_ones {s : Nat} (hs : s < 4096) : mj_dc mj_P E (d + 1) 156 [.ref 205, .int (nI s)] (mj_hw w c hi hl) = some (some (.int (nI (mj_pc 12 s))), mj_hw w c hi hl) := by
  rw [e156, q156_0, mj_zz, s_onesL _ s 0 hs, Nat.zero_add]
end MJ39b
/-- the JDK's counts, for sets of twelve -/
def mj_tz (s : Nat) : Nat := if s = 0 then 32 else if s.testBit 0 then 0 else if s.testBit 1 then 1 else if s.testBit 2 then 2 else if s.testBit 3 then 3 else if s.testBit 4 then 4 else if s.testBit 5 then 5 else if s.testBit 6 then 6 else if s.testBit 7 then 7 else if s.testBit 8 then 8 else if s.testBit 9 then 9 else if s.testBit 10 then 10 else 11
section MJ39c
variable {E : mj_E} {d w c : Nat} {hi : Nat → Nat → Int32} {hl : Nat → Nat → Int64}
theorem s_bcE (x : Int32) : ∃ f : Int32 → Int32, (∀ s, s < 4096 → f (nI s) = nI (mj_pc 12 s)) ∧ mj_dc mj_P E (d + 1) 293 [.int x] (mj_hw w c hi hl) = some (some (.int (f x)), mj_hw w c hi hl) := by
  refine ⟨fun v0 => ((((((((v0 - ((mj_ush v0 (1 : Int32)) &&& (1431655765 : Int32))) &&& (858993459 : Int32)) + ((mj_ush (v0 - ((mj_ush v0 (1 : Int32)) &&& (1431655765 : Int32))) (2 : Int32)) &&& (858993459 : Int32))) + (mj_ush (((v0 - ((mj_ush v0 (1 : Int32)) &&& (1431655765 : Int32))) &&& (858993459 : Int32)) + ((mj_ush (v0 - ((mj_ush v0 (1 : Int32)) &&& (1431655765 : Int32))) (2 : Int32)) &&& (858993459 : Int32))) (4 : Int32))) &&& (252645135 : Int32)) + (mj_ush (((((v0 - ((mj_ush v0 (1 : Int32)) &&& (1431655765 : Int32))) &&& (858993459 : Int32)) + ((mj_ush (v0 - ((mj_ush v0 (1 : Int32)) &&& (1431655765 : Int32))) (2 : Int32)) &&& (858993459 : Int32))) + (mj_ush (((v0 - ((mj_ush v0 (1 : Int32)) &&& (1431655765 : Int32))) &&& (858993459 : Int32)) + ((mj_ush (v0 - ((mj_ush v0 (1 : Int32)) &&& (1431655765 : Int32))) (2 : Int32)) &&& (858993459 : Int32))) (4 : Int32))) &&& (252645135 : Int32)) (8 : Int32))) + (mj_ush ((((((v0 - ((mj_ush v0 (1 : Int32)) &&& (1431655765 : Int32))) &&& (858993459 : Int32)) + ((mj_ush (v0 - ((mj_ush v0 (1 : Int32)) &&& (1431655765 : Int32))) (2 : Int32)) &&& (858993459 : Int32))) + (mj_ush (((v0 - ((mj_ush v0 (1 : Int32)) &&& (1431655765 : Int32))) &&& (858993459 : Int32)) + ((mj_ush (v0 - ((mj_ush v0 (1 : Int32)) &&& (1431655765 : Int32))) (2 : Int32)) &&& (858993459 : Int32))) (4 : Int32))) &&& (252645135 : Int32)) + (mj_ush (((((v0 - ((mj_ush v0 (1 : Int32)) &&& (1431655765 : Int32))) &&& (858993459 : Int32)) + ((mj_ush (v0 - ((mj_ush v0 (1 : Int32)) &&& (1431655765 : Int32))) (2 : Int32)) &&& (858993459 : Int32))) + (mj_ush (((v0 - ((mj_ush v0 (1 : Int32)) &&& (1431655765 : Int32))) &&& (858993459 : Int32)) + ((mj_ush (v0 - ((mj_ush v0 (1 : Int32)) &&& (1431655765 : Int32))) (2 : Int32)) &&& (858993459 : Int32))) (4 : Int32))) &&& (252645135 : Int32)) (8 : Int32))) (16 : Int32))) &&& (63 : Int32)), ?_, ?_⟩
  · exact mj_4096 (by decide +kernel)
  · rw [e293, q293_0]
theorem s_bc {s : Nat} (hs : s < 4096) : mj_dc mj_P E (d + 1) 293 [.int (nI s)] (mj_hw w c hi hl) = some (some (.int (nI (mj_pc 12 s))), mj_hw w c hi hl) := by
  obtain ⟨f, h1, h2⟩ := s_bcE (E := E) (d := d) (w := w) (c := c) (hi := hi) (hl := hl) (nI s)
  rw [h2, h1 s hs]
def mj_ntz (v0 : Int32) : Int32 :=
  let i := (v0 ^^^ -1) &&& (v0 - 1)
  if 0 < i then
    let p := if i ≤ 65536 then (i, (1 : Int32)) else (mj_ush i 16, 1 + 16)
    let p := if p.1 ≤ 256 then p else (mj_ush p.1 8, p.2 + 8)
    let p := if p.1 ≤ 16 then p else (mj_ush p.1 4, p.2 + 4)
    let p := if p.1 ≤ 4 then p else (mj_ush p.1 2, p.2 + 2)
    p.2 + mj_ush p.1 1
  else i &&& 32
theorem mj_ntz_tz : ∀ s, s < 4096 → mj_ntz (nI s) = nI (mj_tz s) := mj_4096 (by decide +kernel)
theorem s_tzE (x : Int32) : mj_dc mj_P E (d + 1) 292 [.int x] (mj_hw w c hi hl) = some (some (.int (mj_ntz x)), mj_hw w c hi hl) := by
  rw [e292, q292_0]
  unfold mj_ntz
  simp only []
  by_cases h : 0 < ((x ^^^ -1) &&& (x - 1))
  · rw [if_pos h, if_pos h, q292_17]
    by_cases h1 : ((x ^^^ -1) &&& (x - 1)) ≤ 65536
    · rw [if_pos h1, if_pos h1, q292_34]
      split <;> rw [q292_49] <;> split <;> rw [q292_62] <;> split <;> rw [q292_74]
    · rw [if_neg h1, if_neg h1, q292_34]
      split <;> rw [q292_49] <;> split <;> rw [q292_62] <;> split <;> rw [q292_74]
  · rw [if_neg h, if_neg h]
theorem s_tz {s : Nat} (hs : s < 4096) : mj_dc mj_P E (d + 1) 292 [.int (nI s)] (mj_hw w c hi hl) = some (some (.int (nI (mj_tz s))), mj_hw w c hi hl) := by
  rw [s_tzE, mj_ntz_tz s hs]
/-- 32 less the leading zeros: one beyond the greatest member -/
def mj_nlz (v0 : Int32) : Int32 :=
  if 0 < v0 then
    let p := if v0 < 65536 then (v0, (31 : Int32)) else (mj_ush v0 16, 31 + -16)
    let p := if p.1 < 256 then p else (mj_ush p.1 8, p.2 + -8)
    let p := if p.1 < 16 then p else (mj_ush p.1 4, p.2 + -4)
    let p := if p.1 < 4 then p else (mj_ush p.1 2, p.2 + -2)
    p.2 - mj_ush p.1 1
  else if ¬ v0 = 0 then 0 else 32
theorem s_lzE (x : Int32) : mj_dc mj_P E (d + 1) 291 [.int x] (mj_hw w c hi hl) = some (some (.int (mj_nlz x)), mj_hw w c hi hl) := by
  rw [e291, q291_0]
  unfold mj_nlz
  simp only []
  by_cases h : 0 < x
  · rw [if_pos h, if_pos h, q291_15]
    split <;> rw [q291_33] <;> split <;> rw [q291_48] <;> split <;> rw [q291_61] <;> split <;> rw [q291_73]
  · rw [if_neg h, if_neg h]
    by_cases h1 : ¬ x = 0
    · rw [if_pos h1, if_pos h1, q291_13, q291_14]
    · rw [if_neg h1, if_neg h1, q291_14]
end MJ39c
