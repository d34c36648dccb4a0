/-! longs: bits and their count; the first rows (wb_*) are pasted from kit/laws -/
theorem wb_tb (n : Nat) : (lN n).toBitVec = BitVec.ofNat 64 n := rfl
theorem wb_inj {a b : Int64} (h : a.toBitVec = b.toBitVec) : a = b := Int64.toBitVec_inj.mp h
theorem wb_tn {n : Nat} (h : n < 2 ^ 64) : (lN n).toBitVec.toNat = n := by rw [wb_tb, BitVec.toNat_ofNat, Nat.mod_eq_of_lt h]
theorem wb_c : ∀ k, k < 64 → ((nI k).toInt64 &&& 63) = lN k := by decide +kernel
theorem wb_cu : ∀ k, k < 64 → ((nI k).toInt64.toUInt64 &&& Int64.toUInt64 63) = UInt64.ofNat k := by decide +kernel
theorem wb_sm : ∀ k, k < 64 → (BitVec.ofNat 64 k).smod 64 = BitVec.ofNat 64 k := by decide +kernel
theorem wb_shr {n k : Nat} (hn : n < 2 ^ 64) (hk : k < 64) : ((lN n).toUInt64 >>> ((nI k).toInt64.toUInt64 &&& Int64.toUInt64 63)).toInt64 = lN (n / 2 ^ k) := by
  rw [wb_cu k hk]
  apply wb_inj
  apply BitVec.eq_of_toNat_eq
  show ((lN n).toUInt64 >>> UInt64.ofNat k).toNat = (BitVec.ofNat 64 _).toNat
  have h1 : (UInt64.ofNat k).toNat = k := by
    show (BitVec.ofNat 64 k).toNat = k
    rw [BitVec.toNat_ofNat, Nat.mod_eq_of_lt (by omega)]
  have h2 : (lN n).toUInt64.toNat = n := wb_tn hn
  rw [UInt64.toNat_shiftRight, h1, h2, Nat.mod_eq_of_lt hk, Nat.shiftRight_eq_div_pow, BitVec.toNat_ofNat, Nat.mod_eq_of_lt (Nat.lt_of_le_of_lt (Nat.div_le_self _ _) hn)]
theorem wb_shl (n : Nat) {k : Nat} (hk : k < 64) : lN n <<< ((nI k).toInt64 &&& 63) = lN (n * 2 ^ k) := by
  rw [wb_c k hk]
  apply wb_inj
  rw [Int64.toBitVec_shiftLeft, wb_tb, wb_tb, wb_tb, wb_sm k hk]
  apply BitVec.eq_of_toNat_eq
  rw [BitVec.shiftLeft_eq', BitVec.toNat_shiftLeft, BitVec.toNat_ofNat, BitVec.toNat_ofNat, BitVec.toNat_ofNat, Nat.mod_eq_of_lt (show k < 2 ^ 64 by omega), Nat.shiftLeft_eq, Nat.mul_mod, Nat.mod_mod, ← Nat.mul_mod]
theorem wb_and {a b : Nat} (ha : a < 2 ^ 64) (hb : b < 2 ^ 64) : lN a &&& lN b = lN (a &&& b) := by
  apply wb_inj
  rw [Int64.toBitVec_and, wb_tb, wb_tb, wb_tb]
  apply BitVec.eq_of_toNat_eq
  rw [BitVec.toNat_and, BitVec.toNat_ofNat, BitVec.toNat_ofNat, BitVec.toNat_ofNat, Nat.mod_eq_of_lt ha, Nat.mod_eq_of_lt hb, Nat.mod_eq_of_lt (Nat.and_lt_two_pow _ hb)]
theorem wb_or {a b : Nat} (ha : a < 2 ^ 64) (hb : b < 2 ^ 64) : lN a ||| lN b = lN (a ||| b) := by
  apply wb_inj
  rw [Int64.toBitVec_or, wb_tb, wb_tb, wb_tb]
  apply BitVec.eq_of_toNat_eq
  rw [BitVec.toNat_or, BitVec.toNat_ofNat, BitVec.toNat_ofNat, BitVec.toNat_ofNat, Nat.mod_eq_of_lt ha, Nat.mod_eq_of_lt hb, Nat.mod_eq_of_lt (Nat.or_lt_two_pow ha hb)]
theorem wl_sh {n k : Nat} (hn : n < 2 ^ 64) (hk : k < 64) : mj_lush (lN n) (nI k) = lN (n / 2 ^ k) := wb_shr hn hk
/-! bytes -/
def wt_m (v : Nat) : Nat → Nat
  | 0 => 0
  | k + 1 => v + 256 * wt_m v k
def wt_M (f : Nat → Nat) : Nat → Nat → Nat
  | 0, _ => 0
  | k + 1, x => f (x % 256) + 256 * wt_M f k (x / 256)
theorem wt_m_s (v k : Nat) : wt_m v (k + 1) = v + 256 * wt_m v k := rfl
theorem wt_M_s (f : Nat → Nat) (k x : Nat) : wt_M f (k + 1) x = f (x % 256) + 256 * wt_M f k (x / 256) := rfl
theorem wt_and {a c y M : Nat} (ha : a < 256) (hc : c < 256) : (a + 256 * y) &&& (c + 256 * M) = (a &&& c) + 256 * (y &&& M) := by
  have e1 : (a + 256 * y) % 2 ^ 8 = a := by omega
  have e2 : (c + 256 * M) % 2 ^ 8 = c := by omega
  have e3 : (a + 256 * y) / 2 ^ 8 = y := by omega
  have e4 : (c + 256 * M) / 2 ^ 8 = M := by omega
  have h1 : ((a + 256 * y) &&& (c + 256 * M)) % 2 ^ 8 = a &&& c := by rw [Nat.and_mod_two_pow, e1, e2]
  have h2 : ((a + 256 * y) &&& (c + 256 * M)) / 2 ^ 8 = y &&& M := by rw [Nat.and_div_two_pow, e3, e4]
  omega
theorem wt_t1 : ∀ b, b < 256 → (∀ e, e < 2 → (b / 2 + 128 * e) &&& 85 = b / 2 &&& 85) ∧ (b / 2 &&& 85) ≤ b := by decide +kernel
theorem wt_t2 : ∀ b, b < 256 → ∀ e, e < 4 → (b / 4 + 64 * e) &&& 51 = b / 4 &&& 51 := by decide +kernel
def wt_f1 (b : Nat) : Nat := b - (b / 2 &&& 85)
def wt_f2 (b : Nat) : Nat := (b &&& 51) + (b / 4 &&& 51)
def wt_f3 (b : Nat) : Nat := b % 16 + b / 16
theorem wt_t3 : ∀ b, b < 256 → wt_f1 b < 256 ∧ wt_f2 (wt_f1 b) < 256 ∧ wt_f2 (wt_f1 b) % 16 ≤ 4 ∧ wt_f2 (wt_f1 b) / 16 ≤ 4 ∧ wt_f3 (wt_f2 (wt_f1 b)) = mj_pc 8 b := by decide +kernel
theorem wt_l1 : ∀ k x, x < 256 ^ k → x - (x / 2 &&& wt_m 85 k) = wt_M wt_f1 k x ∧ (x / 2 &&& wt_m 85 k) ≤ x := by
  intro k
  induction k with
  | zero => intro x hx; have : x = 0 := by omega
            subst this; exact ⟨rfl, Nat.le_refl _⟩
  | succ k ih =>
    intro x hx
    have hx' : x / 256 < 256 ^ k := by rw [Nat.pow_succ] at hx; omega
    obtain ⟨i1, i2⟩ := ih (x / 256) hx'
    obtain ⟨t1, t2⟩ := wt_t1 (x % 256) (by omega)
    have e : x / 2 = (x % 256 / 2 + 128 * (x / 256 % 2)) + 256 * (x / 256 / 2) := by omega
    rw [wt_m_s, wt_M_s, ← i1, e, wt_and (by omega) (by omega), t1 _ (by omega)]
    unfold wt_f1
    constructor
    · omega
    · omega
theorem wt_l2 : ∀ k x, x < 256 ^ k → (x &&& wt_m 51 k) + (x / 4 &&& wt_m 51 k) = wt_M wt_f2 k x := by
  intro k
  induction k with
  | zero => intro x hx; have : x = 0 := by omega
            subst this; rfl
  | succ k ih =>
    intro x hx
    have hx' : x / 256 < 256 ^ k := by rw [Nat.pow_succ] at hx; omega
    have i1 := ih (x / 256) hx'
    have t1 := wt_t2 (x % 256) (by omega) (x / 256 % 4) (by omega)
    have e : x / 4 = (x % 256 / 4 + 64 * (x / 256 % 4)) + 256 * (x / 256 / 4) := by omega
    have e0 : x &&& wt_m 51 (k + 1) = (x % 256 &&& 51) + 256 * (x / 256 &&& wt_m 51 k) := by
      rw [wt_m_s]
      have : x = x % 256 + 256 * (x / 256) := by omega
      rw (occs := .pos [1]) [this]
      rw [wt_and (by omega) (by omega)]
    rw [e0, wt_m_s, wt_M_s, ← i1, e, wt_and (by omega) (by omega), t1]
    unfold wt_f2
    omega
def wt_ok : Nat → Nat → Prop
  | 0, y => y = 0
  | k + 1, y => (y % 256) % 16 ≤ 4 ∧ (y % 256) / 16 ≤ 4 ∧ wt_ok k (y / 256)
theorem wt_ok16 : ∀ k y, wt_ok k y → y % 16 ≤ 4 := by
  intro k y h
  cases k with
  | zero => have : y = 0 := h
            omega
  | succ k => have := h.1; omega
theorem wt_l3 : ∀ k y, wt_ok k y → (y + y / 16) &&& wt_m 15 k = wt_M wt_f3 k y := by
  intro k
  induction k with
  | zero => intro y h; have : y = 0 := h
            subst this; rfl
  | succ k ih =>
    intro y h
    obtain ⟨h1, h2, h3⟩ := h
    have i1 := ih (y / 256) h3
    have h4 := wt_ok16 k _ h3
    have e : y + y / 16 = (y % 256 + y % 256 / 16 + 16 * (y / 256 % 16)) + 256 * (y / 256 + y / 256 / 16) := by omega
    have e2 : (y % 256 + y % 256 / 16 + 16 * (y / 256 % 16)) &&& 15 = y % 256 % 16 + y % 256 / 16 := by
      have := Nat.and_two_pow_sub_one_eq_mod (y % 256 + y % 256 / 16 + 16 * (y / 256 % 16)) 4
      rw [show 2 ^ 4 - 1 = 15 from rfl] at this
      rw [this]; omega
    rw [wt_m_s, wt_M_s, ← i1, e, wt_and (by omega) (by omega), e2]
    rfl
theorem wt_MM {f g : Nat → Nat} (hf : ∀ b, b < 256 → f b < 256) : ∀ k x, wt_M g k (wt_M f k x) = wt_M (fun b => g (f b)) k x := by
  intro k
  induction k with
  | zero => intro x; rfl
  | succ k ih =>
    intro x
    have h1 := hf (x % 256) (by omega)
    rw [wt_M_s g, wt_M_s f, wt_M_s, ← ih, show (f (x % 256) + 256 * wt_M f k (x / 256)) % 256 = f (x % 256) by omega, show (f (x % 256) + 256 * wt_M f k (x / 256)) / 256 = wt_M f k (x / 256) by omega]
theorem wt_Mlt {f : Nat → Nat} (hf : ∀ b, b < 256 → f b < 256) : ∀ k x, wt_M f k x < 256 ^ k := by
  intro k
  induction k with
  | zero => intro x; show 0 < 1; omega
  | succ k ih =>
    intro x
    have h1 := hf (x % 256) (by omega)
    have h2 := ih (x / 256)
    rw [wt_M_s, Nat.pow_succ]; omega
theorem wt_Mok {f : Nat → Nat} (hf : ∀ b, b < 256 → f b < 256 ∧ f b % 16 ≤ 4 ∧ f b / 16 ≤ 4) : ∀ k x, wt_ok k (wt_M f k x) := by
  intro k
  induction k with
  | zero => intro x; rfl
  | succ k ih =>
    intro x
    obtain ⟨h1, h2, h3⟩ := hf (x % 256) (by omega)
    show (wt_M f (k + 1) x % 256) % 16 ≤ 4 ∧ (wt_M f (k + 1) x % 256) / 16 ≤ 4 ∧ wt_ok k (wt_M f (k + 1) x / 256)
    rw [wt_M_s, show (f (x % 256) + 256 * wt_M f k (x / 256)) % 256 = f (x % 256) by omega, show (f (x % 256) + 256 * wt_M f k (x / 256)) / 256 = wt_M f k (x / 256) by omega]
    exact ⟨h2, h3, ih _⟩
theorem wt_Mcongr {f g : Nat → Nat} (h : ∀ b, b < 256 → f b = g b) : ∀ k x, wt_M f k x = wt_M g k x := by
  intro k
  induction k with
  | zero => intro x; rfl
  | succ k ih => intro x; rw [wt_M_s, wt_M_s, ih, h _ (by omega)]
theorem iv_cnt_len (p : Nat → Bool) (a b : Nat) : iv_cnt p (a + b) = iv_cnt p a + iv_cnt (fun i => p (a + i)) b := by
  induction b with
  | zero => rfl
  | succ b ih => rw [show a + (b + 1) = (a + b) + 1 by omega, iv_cnt_s, ih, iv_cnt_s]; omega
theorem wt_pcs (x m : Nat) : mj_pc (8 + m) x = mj_pc 8 (x % 256) + mj_pc m (x / 256) := by
  unfold mj_pc
  rw [iv_cnt_len]
  congr 1
  · refine iv_cnt_congr 8 (fun i hi => ?_)
    rw [show 256 = 2 ^ 8 from rfl, Nat.testBit_mod_two_pow, decide_eq_true hi]; rfl
  · refine iv_cnt_congr m (fun i hi => ?_)
    rw [show 256 = 2 ^ 8 from rfl, Nat.testBit_div_two_pow, Nat.add_comm]
theorem wt_sum (x : Nat) (hx : x < 2 ^ 64) : ∃ p0 p1 p2 p3 p4 p5 p6 p7 : Nat, p0 ≤ 8 ∧ p1 ≤ 8 ∧ p2 ≤ 8 ∧ p3 ≤ 8 ∧ p4 ≤ 8 ∧ p5 ≤ 8 ∧ p6 ≤ 8 ∧ p7 ≤ 8 ∧ wt_M (mj_pc 8) 8 x = p0 + 256 * p1 + 65536 * p2 + 16777216 * p3 + 4294967296 * p4 + 1099511627776 * p5 + 281474976710656 * p6 + 72057594037927936 * p7 ∧ mj_pc 64 x = p0 + p1 + p2 + p3 + p4 + p5 + p6 + p7 := by
  have hb : ∀ y, mj_pc 8 y ≤ 8 := fun y => iv_cnt_bd _ _
  refine ⟨_, _, _, _, _, _, _, _, hb (x % 256), hb (x / 256 % 256), hb (x / 256 / 256 % 256), hb (x / 256 / 256 / 256 % 256), hb (x / 256 / 256 / 256 / 256 % 256), hb (x / 256 / 256 / 256 / 256 / 256 % 256), hb (x / 256 / 256 / 256 / 256 / 256 / 256 % 256), hb (x / 256 / 256 / 256 / 256 / 256 / 256 / 256 % 256), ?_, ?_⟩
  · simp only [wt_M_s, show wt_M (mj_pc 8) 0 = fun _ => 0 from rfl]; omega
  · rw [show 64 = 8 + (8 + (8 + (8 + (8 + (8 + (8 + (8 + 0))))))) from rfl]
    simp only [wt_pcs]
    rw [show mj_pc 0 (x / 256 / 256 / 256 / 256 / 256 / 256 / 256 / 256) = 0 from rfl]; omega
theorem wt_Mhalf {f : Nat → Nat} (hf : ∀ b, b < 256 → f b ≤ 127) : ∀ k x, 2 * wt_M f k x < 256 ^ k := by
  intro k
  induction k with
  | zero => intro x; show 0 < 1; omega
  | succ k ih =>
    intro x
    have h1 := hf (x % 256) (by omega)
    have h2 := ih (x / 256)
    rw [wt_M_s, Nat.pow_succ]; omega
theorem wt_t4 : ∀ b, b < 256 → wt_f2 (wt_f1 b) ≤ 127 := by decide +kernel
theorem wt_q1 {A p B : Nat} (r0 : p < 256) (s : A = p + 256 * B) : A / 256 = B := by omega
theorem wt_q2 {A p B : Nat} (r0 : p < 65536) (s : A = p + 65536 * B) : A / 65536 = B := by omega
theorem wt_q3 {A p B : Nat} (r0 : p < 4294967296) (s : A = p + 4294967296 * B) : A / 4294967296 = B := by omega
theorem wt_q4 {A p B : Nat} (r0 : p ≤ 64) (s : A = p + 256 * B) : A % 128 = p := by omega
theorem wt_b8 {p0 p1 p2 p3 p4 p5 p6 p7 : Nat} (r0 : p0 ≤ 64) (r1 : p1 ≤ 64) (r2 : p2 ≤ 64) (r3 : p3 ≤ 64) (r4 : p4 ≤ 64) (r5 : p5 ≤ 64) (r6 : p6 ≤ 64) (r7 : p7 ≤ 64) : p0 + 256 * p1 + 65536 * p2 + 16777216 * p3 + 4294967296 * p4 + 1099511627776 * p5 + 281474976710656 * p6 + 72057594037927936 * p7 < 18446744073709551616 := by omega
theorem wt_lin2 {p0 p1 p2 p3 p4 p5 p6 p7 : Nat} : p0 + 256 * p1 + 65536 * p2 + 16777216 * p3 + 4294967296 * p4 + 1099511627776 * p5 + 281474976710656 * p6 + 72057594037927936 * p7 = p0 + 256 * (p1 + 256 * p2 + 65536 * p3 + 16777216 * p4 + 4294967296 * p5 + 1099511627776 * p6 + 281474976710656 * p7) := by omega
theorem wt_lin3 {p0 p1 p2 p3 p4 p5 p6 p7 : Nat} : p0 + 256 * p1 + 65536 * p2 + 16777216 * p3 + 4294967296 * p4 + 1099511627776 * p5 + 281474976710656 * p6 + 72057594037927936 * p7 + (p1 + 256 * p2 + 65536 * p3 + 16777216 * p4 + 4294967296 * p5 + 1099511627776 * p6 + 281474976710656 * p7) = (p0 + p1) + 256 * (p1 + p2) + 65536 * (p2 + p3) + 16777216 * (p3 + p4) + 4294967296 * (p4 + p5) + 1099511627776 * (p5 + p6) + 281474976710656 * (p6 + p7) + 72057594037927936 * p7 := by omega
theorem wt_lin4 {p0 p1 p2 p3 p4 p5 p6 p7 : Nat} : p0 + 256 * p1 + 65536 * p2 + 16777216 * p3 + 4294967296 * p4 + 1099511627776 * p5 + 281474976710656 * p6 + 72057594037927936 * p7 = (p0 + 256 * p1) + 65536 * (p2 + 256 * p3 + 65536 * p4 + 16777216 * p5 + 4294967296 * p6 + 1099511627776 * p7) := by omega
theorem wt_lin5 {p0 p1 p2 p3 p4 p5 p6 p7 : Nat} : p0 + 256 * p1 + 65536 * p2 + 16777216 * p3 + 4294967296 * p4 + 1099511627776 * p5 + 281474976710656 * p6 + 72057594037927936 * p7 + (p2 + 256 * p3 + 65536 * p4 + 16777216 * p5 + 4294967296 * p6 + 1099511627776 * p7) = (p0 + p2) + 256 * (p1 + p3) + 65536 * (p2 + p4) + 16777216 * (p3 + p5) + 4294967296 * (p4 + p6) + 1099511627776 * (p5 + p7) + 281474976710656 * p6 + 72057594037927936 * p7 := by omega
theorem wt_lin6 {p0 p1 p2 p3 p4 p5 p6 p7 : Nat} : p0 + 256 * p1 + 65536 * p2 + 16777216 * p3 + 4294967296 * p4 + 1099511627776 * p5 + 281474976710656 * p6 + 72057594037927936 * p7 = (p0 + 256 * p1 + 65536 * p2 + 16777216 * p3) + 4294967296 * (p4 + 256 * p5 + 65536 * p6 + 16777216 * p7) := by omega
theorem wt_lin7 {p0 p1 p2 p3 p4 p5 p6 p7 : Nat} : p0 + 256 * p1 + 65536 * p2 + 16777216 * p3 + 4294967296 * p4 + 1099511627776 * p5 + 281474976710656 * p6 + 72057594037927936 * p7 + (p4 + 256 * p5 + 65536 * p6 + 16777216 * p7) = (p0 + p4) + 256 * (p1 + p5 + 256 * (p2 + p6) + 65536 * (p3 + p7) + 16777216 * p4 + 4294967296 * p5 + 1099511627776 * p6 + 281474976710656 * p7) := by omega
theorem wt_s2 {p0 p1 : Nat} (r0 : p0 ≤ 64) (r1 : p1 ≤ 64) : p0 + 256 * p1 < 65536 := by omega
theorem wt_s3 {p0 p1 p2 p3 : Nat} (r0 : p0 ≤ 64) (r1 : p1 ≤ 64) (r2 : p2 ≤ 64) (r3 : p3 ≤ 64) : p0 + 256 * p1 + 65536 * p2 + 16777216 * p3 < 4294967296 := by omega
section MJ64
variable {E : mj_E} {d w c : Nat} {hi : mj_HI} {hl : Nat → Nat → Int64}
theorem wt_bd {p0 p1 p2 p3 p4 p5 p6 p7 : Nat} (r0 : p0 ≤ 8) (r1 : p1 ≤ 8) (r2 : p2 ≤ 8) (r3 : p3 ≤ 8) (r4 : p4 ≤ 8) (r5 : p5 ≤ 8) (r6 : p6 ≤ 8) (r7 : p7 ≤ 8) : (p0 < 256 ∧ p0 ≤ 64 ∧ p1 ≤ 64 ∧ p2 ≤ 64 ∧ p3 ≤ 64 ∧ p4 ≤ 64 ∧ p5 ≤ 64 ∧ p6 ≤ 64 ∧ p7 ≤ 64) ∧ (p0 + p1 ≤ 64 ∧ p1 + p2 ≤ 64 ∧ p2 + p3 ≤ 64 ∧ p3 + p4 ≤ 64 ∧ p4 + p5 ≤ 64 ∧ p5 + p6 ≤ 64 ∧ p6 + p7 ≤ 64) ∧ (p0 + p1 + (p2 + p3) ≤ 64 ∧ p1 + p2 + (p3 + p4) ≤ 64 ∧ p2 + p3 + (p4 + p5) ≤ 64 ∧ p3 + p4 + (p5 + p6) ≤ 64 ∧ p4 + p5 + (p6 + p7) ≤ 64 ∧ p5 + p6 + p7 ≤ 64) ∧ p0 + p1 + (p2 + p3) + (p4 + p5 + (p6 + p7)) ≤ 64 ∧ p0 + p1 + (p2 + p3) + (p4 + p5 + (p6 + p7)) = p0 + p1 + p2 + p3 + p4 + p5 + p6 + p7 := by omega
theorem s_lbc2 {A3 N : Nat} (h : ∃ p0 p1 p2 p3 p4 p5 p6 p7 : Nat, p0 ≤ 8 ∧ p1 ≤ 8 ∧ p2 ≤ 8 ∧ p3 ≤ 8 ∧ p4 ≤ 8 ∧ p5 ≤ 8 ∧ p6 ≤ 8 ∧ p7 ≤ 8 ∧ A3 = p0 + 256 * p1 + 65536 * p2 + 16777216 * p3 + 4294967296 * p4 + 1099511627776 * p5 + 281474976710656 * p6 + 72057594037927936 * p7 ∧ N = p0 + p1 + p2 + p3 + p4 + p5 + p6 + p7) : A3 < 18446744073709551616 ∧ A3 + A3 / 256 < 18446744073709551616 ∧ A3 + A3 / 256 + (A3 + A3 / 256) / 65536 < 18446744073709551616 ∧ (A3 + A3 / 256 + (A3 + A3 / 256) / 65536 + (A3 + A3 / 256 + (A3 + A3 / 256) / 65536) / 4294967296) % 128 = N := by
  obtain ⟨p0, p1, p2, p3, p4, p5, p6, p7, r0, r1, r2, r3, r4, r5, r6, r7, s1, s2⟩ := h
  obtain ⟨⟨a0, b0, b1, b2, b3, b4, b5, b6, b7⟩, ⟨c0, c1, c2, c3, c4, c5, c6⟩, ⟨d0, d1, d2, d3, d4, d5⟩, e0, e1⟩ := wt_bd r0 r1 r2 r3 r4 r5 r6 r7
  have q1 := wt_q1 (A := A3) (p := p0) a0 (s1.trans wt_lin2)
  have g1 : A3 + A3 / 256 = _ := (congr (congrArg HAdd.hAdd s1) q1).trans wt_lin3
  have q2 := wt_q2 (A := A3 + A3 / 256) (p := p0 + p1 + 256 * (p1 + p2)) (wt_s2 c0 c1) (g1.trans wt_lin4)
  have g2 : A3 + A3 / 256 + (A3 + A3 / 256) / 65536 = _ := (congr (congrArg HAdd.hAdd g1) q2).trans wt_lin5
  have q3 := wt_q3 (A := A3 + A3 / 256 + (A3 + A3 / 256) / 65536) (wt_s3 d0 d1 d2 d3) (g2.trans wt_lin6)
  have g3 : A3 + A3 / 256 + (A3 + A3 / 256) / 65536 + (A3 + A3 / 256 + (A3 + A3 / 256) / 65536) / 4294967296 = _ := (congr (congrArg HAdd.hAdd g2) q3).trans wt_lin7
  have q4 := wt_q4 (p := p0 + p1 + (p2 + p3) + (p4 + p5 + (p6 + p7))) e0 g3
  exact ⟨Nat.lt_of_le_of_lt (Nat.le_of_eq s1) (wt_b8 b0 b1 b2 b3 b4 b5 b6 b7), Nat.lt_of_le_of_lt (Nat.le_of_eq g1) (wt_b8 c0 c1 c2 c3 c4 c5 c6 b7), Nat.lt_of_le_of_lt (Nat.le_of_eq g2) (wt_b8 d0 d1 d2 d3 d4 d5 c6 b7), q4.trans (e1.trans s2.symm)⟩
theorem s_lbc {x : Nat} (hx : x < 2 ^ 64) : mj_dc mj_P E (d + 1) 294 [.long (lN x)] (mj_hw w c hi hl) = some (some (.int (nI (mj_pc 64 x))), mj_hw w c hi hl) := by
  have hx8 : x < 256 ^ 8 := hx
  obtain ⟨l1, l1b⟩ := wt_l1 8 x hx8
  have b1 := wt_Mlt (f := wt_f1) (fun b hb => (wt_t3 b hb).1) 8 x
  have l2 := wt_l2 8 (wt_M wt_f1 8 x) b1
  have e12 := wt_MM (f := wt_f1) (g := wt_f2) (fun b hb => (wt_t3 b hb).1) 8 x
  have ok2 := wt_Mok (f := fun b => wt_f2 (wt_f1 b)) (fun b hb => ⟨(wt_t3 b hb).2.1, (wt_t3 b hb).2.2.1, (wt_t3 b hb).2.2.2.1⟩) 8 x
  have b2 := wt_Mhalf (f := fun b => wt_f2 (wt_f1 b)) wt_t4 8 x
  have l3 := wt_l3 8 _ ok2
  have e23 := wt_MM (f := fun b => wt_f2 (wt_f1 b)) (g := wt_f3) (fun b hb => (wt_t3 b hb).2.1) 8 x
  have e3 := wt_Mcongr (f := fun b => wt_f3 (wt_f2 (wt_f1 b))) (g := mj_pc 8) (fun b hb => (wt_t3 b hb).2.2.2.2) 8 x
  rw [e12] at l2
  rw [e23, e3] at l3
  obtain ⟨r1, r2, r3, r4⟩ := s_lbc2 (wt_sum x hx)
  have m85 : wt_m 85 8 = 6148914691236517205 := by decide +kernel
  have m51 : wt_m 51 8 = 3689348814741910323 := by decide +kernel
  have m15 : wt_m 15 8 = 1085102592571150095 := by decide +kernel
  rw [m85] at l1 l1b
  rw [m51] at l2
  rw [m15] at l3
  have p256 : (256 : Nat) ^ 8 = 2 ^ 64 := by decide +kernel
  rw [p256] at b1 b2
  generalize wt_M wt_f1 8 x = A1 at l1 l2 b1
  generalize wt_M (fun b => wt_f2 (wt_f1 b)) 8 x = A2 at l2 l3 b2
  generalize wt_M (mj_pc 8) 8 x = A3 at l3 r1 r2 r3 r4
  have c85 : (6148914691236517205 : Nat) < 2 ^ 64 := by decide
  have c51 : (3689348814741910323 : Nat) < 2 ^ 64 := by decide
  have c15 : (1085102592571150095 : Nat) < 2 ^ 64 := by decide
  clear e12 e23 e3 ok2 hx8
  have a1 : lN x - (mj_lush (lN x) 1 &&& Int64.ofNat 6148914691236517205) = lN A1 := by
    rw [mj_oo, wl_sh hx (by decide), wl_of, wb_and (Nat.lt_of_le_of_lt (Nat.div_le_self _ _) hx) c85, Nat.pow_one, lN_sub l1b, l1]
  have a2 : (lN A1 &&& Int64.ofNat 3689348814741910323) + (mj_lush (lN A1) 2 &&& Int64.ofNat 3689348814741910323) = lN A2 := by
    rw [nl_2, wl_sh b1 (by decide), wl_of, wb_and b1 c51, wb_and (Nat.lt_of_le_of_lt (Nat.div_le_self _ _) b1) c51, lN_add, show (2 : Nat) ^ 2 = 4 from rfl, l2]
  have b2' : A2 < 2 ^ 64 := by omega
  have b3' : A2 + A2 / 16 < 2 ^ 64 := by omega
  have a3 : (lN A2 + mj_lush (lN A2) 4) &&& Int64.ofNat 1085102592571150095 = lN A3 := by
    rw [nl_4, wl_sh b2' (by decide), wl_of, lN_add, show (2 : Nat) ^ 4 = 16 from rfl, wb_and b3' c15, l3]
  have a4 : lN A3 + mj_lush (lN A3) 8 = lN (A3 + A3 / 256) := by
    rw [nl_8, wl_sh r1 (by decide), lN_add]
  have a5 : lN (A3 + A3 / 256) + mj_lush (lN (A3 + A3 / 256)) 16 = lN (A3 + A3 / 256 + (A3 + A3 / 256) / 65536) := by
    rw [nl_16, wl_sh r2 (by decide), lN_add]
  have a6 : lN (A3 + A3 / 256 + (A3 + A3 / 256) / 65536) + mj_lush (lN (A3 + A3 / 256 + (A3 + A3 / 256) / 65536)) 32 = lN (A3 + A3 / 256 + (A3 + A3 / 256) / 65536 + (A3 + A3 / 256 + (A3 + A3 / 256) / 65536) / 4294967296) := by
    rw [nl_32, wl_sh r3 (by decide), lN_add]
  rw [e294, q294_0, a1, a2, a3, a4, a5, a6, lN_i, nl_127, bx_and]
  have h7 := Nat.and_two_pow_sub_one_eq_mod (A3 + A3 / 256 + (A3 + A3 / 256) / 65536 + (A3 + A3 / 256 + (A3 + A3 / 256) / 65536) / 4294967296) 7
  rw [show 2 ^ 7 - 1 = 127 from rfl, show 2 ^ 7 = 128 from rfl] at h7
  rw [h7, r4]
end MJ64
