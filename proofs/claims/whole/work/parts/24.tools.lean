/-! small numbers as ints -/
theorem mj_bi_some (x : Int32) (h : mj_H) (f : Int32 → mj_H → mj_R) : mj_bi (some (some (.int x), h)) f = f x h := rfl
theorem mj_bv_some (h : mj_H) (f : mj_H → mj_R) : mj_bv (some (none, h)) f = f h := rfl
theorem mj_bj_some (x : Int64) (h : mj_H) (f : Int64 → mj_H → mj_R) : mj_bj (some (some (.long x), h)) f = f x h := rfl
theorem mj_br_some (x : Nat) (h : mj_H) (f : Nat → mj_H → mj_R) : mj_br (some (some (.ref x), h)) f = f x h := rfl
theorem mj_nIi {k : Nat} (hk : k < 2147483648) : (nI k).toInt = k := by
  unfold nI
  rw [Int32.toInt_ofNat']
  have hs : (Int32.size : Int) = 4294967296 := rfl
  exact Int.bmod_eq_of_le (by omega) (by omega)
theorem mj_nIc {k : Nat} (hk : k < 2147483648) : (nI k).toNatClampNeg = k := by
  show (nI k).toInt.toNat = k
  rw [mj_nIi hk]; rfl
theorem mj_nIle {a b : Nat} (ha : a < 2147483648) (hb : b < 2147483648) : (nI a ≤ nI b) = (a ≤ b) := by
  apply propext
  rw [Int32.le_iff_toInt_le, mj_nIi ha, mj_nIi hb]
  omega
theorem mj_nIlt {a b : Nat} (ha : a < 2147483648) (hb : b < 2147483648) : (nI a < nI b) = (a < b) := by
  apply propext
  rw [Int32.lt_iff_toInt_lt, mj_nIi ha, mj_nIi hb]
  omega
theorem mj_nIeq {a b : Nat} (ha : a < 2147483648) (hb : b < 2147483648) : (nI a = nI b) = (a = b) := by
  apply propext
  constructor
  · intro h
    have := congrArg Int32.toInt h
    rw [mj_nIi ha, mj_nIi hb] at this
    omega
  · intro h; rw [h]
theorem mj_nI0 {k : Nat} (hk : k < 2147483648) : (0 ≤ nI k) = True := by
  apply propext
  rw [Int32.le_iff_toInt_le, mj_nIi hk]
  constructor
  · intro _; trivial
  · intro _; exact Int.natCast_nonneg k
theorem mj_lit (k : Nat) : (OfNat.ofNat k : Int32) = nI k := rfl
theorem mj_nIadd (a b : Nat) : nI a + nI b = nI (a + b) := by
  unfold nI; rw [Int32.ofNat_add]
theorem mj_nIs (k : Nat) : nI k + (1 : Int32) = nI (k + 1) := mj_nIadd k 1
theorem mj_lad (a k : Nat) : (OfNat.ofNat a : Int32) + nI k = nI (a + k) := mj_nIadd a k
theorem mj_lle {a b : Nat} (ha : a < 2147483648) (hb : b < 2147483648) : ((OfNat.ofNat a : Int32) ≤ nI b) = (a ≤ b) := mj_nIle ha hb
theorem mj_ler {a b : Nat} (ha : a < 2147483648) (hb : b < 2147483648) : (nI b ≤ (OfNat.ofNat a : Int32)) = (b ≤ a) := mj_nIle hb ha
theorem mj_llt {a b : Nat} (ha : a < 2147483648) (hb : b < 2147483648) : ((OfNat.ofNat a : Int32) < nI b) = (a < b) := mj_nIlt ha hb
theorem mj_ltr {a b : Nat} (ha : a < 2147483648) (hb : b < 2147483648) : (nI b < (OfNat.ofNat a : Int32)) = (b < a) := mj_nIlt hb ha
/-- n steps, the k-th by step k -/
def mj_fd {S : Type} (step : Nat → S → S) : Nat → S → S
  | 0, s => s
  | n + 1, s => step n (mj_fd step n s)
theorem mj_loop {S T : Type} (F : Nat → S → T) (step : Nat → S → S) (n : Nat) (I : Nat → S → Prop) (h : ∀ k s, k < n → I k s → F k s = F (k + 1) (step k s) ∧ I (k + 1) (step k s)) (s : S) (h0 : I 0 s) : F 0 s = F n (mj_fd step n s) ∧ I n (mj_fd step n s) := by
  induction n with
  | zero => exact ⟨rfl, h0⟩
  | succ n ih =>
    obtain ⟨e, i⟩ := ih (fun k s hk => h k s (by omega))
    obtain ⟨e2, i2⟩ := h n _ (by omega) i
    exact ⟨e.trans e2, i2⟩
theorem mj_fd_eq {S : Type} {f g : Nat → S → S} (n : Nat) (h : ∀ k s, k < n → f k s = g k s) (s : S) : mj_fd f n s = mj_fd g n s := by
  induction n with
  | zero => rfl
  | succ n ih => simp only [mj_fd]; rw [ih (fun k s hk => h k s (by omega)), h n _ (by omega)]
