/-! tokens: y the bytes of the tape, t their number -/
def lxR (P : Nat → Bool) (t : Nat) : Nat → Nat → Nat
  | 0, p => p
  | f + 1, p => if p < t ∧ P p = true then lxR P t f (p + 1) else p
def lx (P : Nat → Bool) (t p : Nat) : Nat := lxR P t (t - p) p
theorem lx_t {P : Nat → Bool} {t p : Nat} (h1 : p < t) (h2 : P p = true) : lx P t p = lx P t (p + 1) := by
  unfold lx
  rw [show t - p = (t - (p + 1)) + 1 by omega]
  show (if p < t ∧ P p = true then lxR P t (t - (p + 1)) (p + 1) else p) = _
  rw [if_pos ⟨h1, h2⟩]
theorem lx_f {P : Nat → Bool} {t p : Nat} (h : ¬ (p < t ∧ P p = true)) : lx P t p = p := by
  unfold lx
  cases hf : t - p with
  | zero => rfl
  | succ f => show (if p < t ∧ P p = true then lxR P t f (p + 1) else p) = p; rw [if_neg h]
theorem lx_ok (P : Nat → Bool) (t : Nat) : ∀ f p, t - p = f → p ≤ lx P t p ∧ (p ≤ t → lx P t p ≤ t) ∧ (∀ q, p ≤ q → q < lx P t p → P q = true) ∧ ¬ (lx P t p < t ∧ P (lx P t p) = true) := by
  intro f
  induction f with
  | zero =>
    intro p hp
    have h : ¬ (p < t ∧ P p = true) := fun z => by omega
    rw [lx_f h]
    exact ⟨Nat.le_refl _, fun h => h, fun q h1 h2 => absurd h1 (by omega), h⟩
  | succ f ih =>
    intro p hp
    by_cases h : p < t ∧ P p = true
    · obtain ⟨i1, i2, i3, i4⟩ := ih (p + 1) (by omega)
      rw [lx_t h.1 h.2]
      refine ⟨by omega, fun _ => i2 (by omega), fun q h1 h2 => ?_, i4⟩
      by_cases hq : q = p
      · rw [hq]; exact h.2
      · exact i3 q (by omega) h2
    · rw [lx_f h]
      exact ⟨Nat.le_refl _, fun h => h, fun q h1 h2 => absurd h1 (by omega), h⟩
def bW (y : Nat → Nat) (p : Nat) : Bool := decide (y p = 32 ∨ y p = 10)
def bL (y : Nat → Nat) (p : Nat) : Bool := decide ((97 ≤ y p ∧ y p ≤ 122) ∨ (65 ≤ y p ∧ y p ≤ 90))
def bG (y : Nat → Nat) (p : Nat) : Bool := decide (48 ≤ y p ∧ y p ≤ 57)
def bS (x : Nat) : Bool := decide (x = 59 ∨ x = 43 ∨ x = 45 ∨ x = 42 ∨ x = 47 ∨ x = 40 ∨ x = 41 ∨ x = 60 ∨ x = 61 ∨ x = 62)
/-- where the token that is looked for from p on begins, and where it ends -/
def lxB (y : Nat → Nat) (t p : Nat) : Nat := lx (bW y) t p
def lxE (y : Nat → Nat) (t b : Nat) : Nat := if t ≤ b then t else if bL y b = true then lx (bL y) t (b + 1) else if bG y b = true then lx (bG y) t (b + 1) else b + 1
def lxP (y : Nat → Nat) (t : Nat) : Nat → Nat
  | 0 => 0
  | i + 1 => lxE y t (lxB y t (lxP y t i))
def nmb (y : Nat → Nat) (b : Nat) : Nat → Nat
  | 0 => 0
  | k + 1 => nmb y b k * 10 + (y (b + k) - 48)
/-- a token's sort and value, by its place: 0 end, 1 number, 2 keyword, 3 sign, 4 none -/
def lxI (y : Nat → Nat) (t w b ty tv : Nat) : Prop := (t ≤ b ∧ ty = 0 ∧ tv = 0) ∨ (b < t ∧ bL y b = true ∧ ((ty = 2 ∧ tv < kN w ∧ kE (fun q => nI (y q)) b (lxE y t b) w tv) ∨ (ty = 4 ∧ ∀ j, j < kN w → ¬ kE (fun q => nI (y q)) b (lxE y t b) w j))) ∨ (b < t ∧ bL y b = false ∧ bG y b = true ∧ ((ty = 1 ∧ lxE y t b - b ≤ 4 ∧ tv = nmb y b (lxE y t b - b)) ∨ (ty = 4 ∧ 4 < lxE y t b - b))) ∨ (b < t ∧ bL y b = false ∧ bG y b = false ∧ ((ty = 3 ∧ bS (y b) = true ∧ tv = y b) ∨ (ty = 4 ∧ ¬ bS (y b) = true)))
theorem nmb_bd {y : Nat → Nat} {b : Nat} : ∀ k, (∀ q, q < k → y (b + q) ≤ 57) → nmb y b k < 10 ^ k := by
  intro k
  induction k with
  | zero => intro _; show 0 < 1; omega
  | succ k ih =>
    intro h
    have h1 := ih (fun q hq => h q (by omega))
    have h2 := h k (by omega)
    show nmb y b k * 10 + (y (b + k) - 48) < 10 ^ (k + 1)
    rw [Nat.pow_succ]; omega
theorem lxE_ok {y : Nat → Nat} {t b : Nat} (hb : b < t) : b < lxE y t b ∧ lxE y t b ≤ t ∧ (bL y b = true → ∀ q, b ≤ q → q < lxE y t b → bL y q = true) ∧ (bL y b = false → bG y b = true → ∀ q, b ≤ q → q < lxE y t b → bG y q = true) := by
  unfold lxE
  rw [if_neg (by omega)]
  by_cases h1 : bL y b = true
  · rw [if_pos h1]
    obtain ⟨a1, a2, a3, a4⟩ := lx_ok (bL y) t _ (b + 1) rfl
    refine ⟨by omega, a2 (by omega), fun _ q q1 q2 => ?_, fun z => by rw [h1] at z; cases z⟩
    by_cases hq : q = b
    · rw [hq]; exact h1
    · exact a3 q (by omega) q2
  · rw [if_neg h1]
    by_cases h2 : bG y b = true
    · rw [if_pos h2]
      obtain ⟨a1, a2, a3, a4⟩ := lx_ok (bG y) t _ (b + 1) rfl
      refine ⟨by omega, a2 (by omega), fun z => absurd z h1, fun _ _ q q1 q2 => ?_⟩
      by_cases hq : q = b
      · rw [hq]; exact h2
      · exact a3 q (by omega) q2
    · rw [if_neg h2]
      exact ⟨by omega, by omega, fun z => absurd z h1, fun _ z => absurd z h2⟩
theorem by_t : ∀ x, x < 256 → ((nI x).toInt8.toInt32 < 97 ↔ (x < 97 ∨ 128 ≤ x)) ∧ ((nI x).toInt8.toInt32 ≤ 122 ↔ (x ≤ 122 ∨ 128 ≤ x)) ∧ ((nI x).toInt8.toInt32 < 65 ↔ (x < 65 ∨ 128 ≤ x)) ∧ (90 < (nI x).toInt8.toInt32 ↔ (90 < x ∧ x < 128)) ∧ ((nI x).toInt8.toInt32 < 48 ↔ (x < 48 ∨ 128 ≤ x)) ∧ (57 < (nI x).toInt8.toInt32 ↔ (57 < x ∧ x < 128)) ∧ ((nI x).toInt8.toInt32 = 32 ↔ x = 32) ∧ ((nI x).toInt8.toInt32 = 10 ↔ x = 10) ∧ (x < 128 → (nI x).toInt8.toInt32 = nI x) ∧ (((nI x).toInt8.toInt32 &&& 255).toUInt32 % 65536).toInt32 = nI x := by decide +kernel
section MJZ4
variable {E : mj_E} {d w c : Nat} {hi : mj_HI} {hl : Nat → Nat → Int64}
theorem s_let {y : Nat → Nat} {p : Nat} (hx : y p < 256) : mj_dc mj_P E (d + 1) 52 [.int (nI (y p)).toInt8.toInt32] (mj_hw w c hi hl) = some (some (.int (if bL y p = true then 1 else 0)), mj_hw w c hi hl) := by
  obtain ⟨t1, t2, t3, t4, _⟩ := by_t (y p) hx
  generalize (nI (y p)).toInt8.toInt32 = s at t1 t2 t3 t4
  rw [e52, q52_0]
  by_cases h : bL y p = true
  · rw [if_pos h]
    unfold bL at h
    have h := of_decide_eq_true h
    by_cases h97 : s < 97
    · have := t1.mp h97
      have n3 : ¬ s < 65 := fun z => by have := t3.mp z; omega
      have n4 : ¬ 90 < s := fun z => by have := t4.mp z; omega
      rw [if_pos h97, q52_12, if_neg n3, if_neg n4, q52_24, q52_29, if_pos (Or.inr rfl)]
    · have : ¬ (y p < 97 ∨ 128 ≤ y p) := fun z => h97 (t1.mpr z)
      have n2 : s ≤ 122 := t2.mpr (by omega)
      rw [if_neg h97, if_pos n2, q52_24, q52_29, if_pos (Or.inr rfl)]
  · rw [if_neg h]
    have h : ¬ ((97 ≤ y p ∧ y p ≤ 122) ∨ (65 ≤ y p ∧ y p ≤ 90)) := fun z => h (decide_eq_true z)
    have h12 : mj_den mj_P E d 52 12 [.int s] [] (mj_hw w c hi hl) = some (some (.int 0), mj_hw w c hi hl) := by
      rw [q52_12]
      by_cases h65 : s < 65
      · rw [if_pos h65, q52_28, q52_29, if_pos (Or.inl rfl)]
      · have : ¬ (y p < 65 ∨ 128 ≤ y p) := fun z => h65 (t3.mpr z)
        have n4 : 90 < s := t4.mpr (by omega)
        rw [if_neg h65, if_pos n4, q52_28, q52_29, if_pos (Or.inl rfl)]
    by_cases h97 : s < 97
    · rw [if_pos h97, h12]
    · have : ¬ (y p < 97 ∨ 128 ≤ y p) := fun z => h97 (t1.mpr z)
      have n2 : ¬ s ≤ 122 := fun z => by have := t2.mp z; omega
      rw [if_neg h97, if_neg n2, h12]
theorem s_dig {y : Nat → Nat} {p : Nat} (hx : y p < 256) : mj_dc mj_P E (d + 1) 53 [.int (nI (y p)).toInt8.toInt32] (mj_hw w c hi hl) = some (some (.int (if bG y p = true then 1 else 0)), mj_hw w c hi hl) := by
  obtain ⟨_, _, _, _, t5, t6, _⟩ := by_t (y p) hx
  generalize (nI (y p)).toInt8.toInt32 = s at t5 t6
  rw [e53, q53_0]
  by_cases h : bG y p = true
  · rw [if_pos h]
    unfold bG at h
    have h := of_decide_eq_true h
    have n1 : ¬ s < 48 := fun z => by have := t5.mp z; omega
    have n2 : ¬ 57 < s := fun z => by have := t6.mp z; omega
    rw [if_neg n1, if_neg n2, q53_17, if_pos (Or.inr rfl)]
  · rw [if_neg h]
    have h : ¬ (48 ≤ y p ∧ y p ≤ 57) := fun z => h (decide_eq_true z)
    by_cases h48 : s < 48
    · rw [if_pos h48, q53_16, q53_17, if_pos (Or.inl rfl)]
    · have : ¬ (y p < 48 ∨ 128 ≤ y p) := fun z => h48 (t5.mpr z)
      have n2 : 57 < s := t6.mpr (by omega)
      rw [if_neg h48, if_pos n2, q53_16, q53_17, if_pos (Or.inl rfl)]
/-- a token is put down -/
theorem s_put {T : Nat} (hT : T ≤ 400) (h9 : hi 159 9 = nI T) (v1 v2 v3 : Int32) : mj_dc mj_P E (d + 1) 51 [.ref 159, .int v1, .int v2, .int v3] (mj_hw w c hi hl) = some (none, mj_hw w c (mj_u (mj_u (mj_u (mj_u hi 174 T v1) 175 T v2) 176 T v3) 159 9 (nI (T + 1))) hl) := by
  have n4 : ¬ (400 : Int32) < nI T := by rw [show (400 : Int32) = nI 400 from rfl, mj_nIlt (by omega) (by omega)]; omega
  have n5 : (0 ≤ nI T ∧ (nI T).toNatClampNeg < 401) := ⟨by rw [mj_nI0 (by omega)]; trivial, by rw [mj_nIc (by omega)]; omega⟩
  rw [e51, q51_0, h9, if_neg n4, if_pos n5, if_pos n5, if_pos n5, mj_nIc (by omega), mj_nIs, q51_50]
/-- one token is cut -/
theorem s_cutT {y : Nat → Nat} {t b T : Nat} (hw : 3 ≤ w ∧ w ≤ 6) (hE : mj_EK E) (ht : t ≤ 400) (hb : b < t) (h0 : hi 159 0 = nI t) (hy : ∀ i, i < t → y i < 256 ∧ hi 173 i = (nI (y i)).toInt8.toInt32) (hT : T ≤ 400) (h9 : hi 159 9 = nI T) : ∃ (ty tv : Nat) (v2 : Int32), lxI y t w b ty tv ∧ (ty < 4 → v2 = nI tv) ∧ mj_dc mj_P E (d + 8) 50 [.ref 159, .int (nI b)] (mj_hw w c hi hl) = some (some (.int (nI (lxE y t b))), mj_hw w c (mj_u (mj_u (mj_u (mj_u hi 174 T (nI ty)) 175 T v2) 176 T (nI b)) 159 9 (nI (T + 1))) hl) := by
  obtain ⟨o1, o2, o3, o4⟩ := lxE_ok (y := y) hb
  have nb0 : (0 ≤ nI b ∧ (nI b).toNatClampNeg < 400) := ⟨by rw [mj_nI0 (by omega)]; trivial, by rw [mj_nIc (by omega)]; omega⟩
  have nbc : (nI b).toNatClampNeg = b := mj_nIc (by omega)
  obtain ⟨yb, hyb⟩ := hy b hb
  have eL := s_let (E := E) (d := d + 6) (w := w) (c := c) (hi := hi) (hl := hl) yb
  rw [e50, q50_0, if_pos nb0, nbc, hyb, eL, mj_bi_some, q50_13, mj_nIs]
  by_cases hL : bL y b = true
  · have hEl : lxE y t b = lx (bL y) t (b + 1) := by unfold lxE; rw [if_neg (by omega), if_pos hL]
    rw [if_pos hL, if_neg (by decide)]
    have lp := lp_from (fun q => mj_den mj_P E (d + 7) 50 16 [.ref 159, .int (nI b), .int (nI q), .float 0] [] (mj_hw w c hi hl)) (b + 1) (lxE y t b) (by omega) (fun q q1 q2 => by
      show mj_den mj_P E (d + 7) 50 16 [.ref 159, .int (nI b), .int (nI q), .float 0] [] (mj_hw w c hi hl) = mj_den mj_P E (d + 7) 50 16 [.ref 159, .int (nI b), .int (nI (q + 1)), .float 0] [] (mj_hw w c hi hl)
      obtain ⟨yq, hyq⟩ := hy q (by omega)
      have eLq := s_let (E := E) (d := d + 6) (w := w) (c := c) (hi := hi) (hl := hl) yq
      rw [if_pos (o3 hL q (by omega) q2)] at eLq
      have n1 : ¬ nI t ≤ nI q := by rw [mj_nIle (by omega) (by omega)]; omega
      have n2 : (0 ≤ nI q ∧ (nI q).toNatClampNeg < 400) := ⟨by rw [mj_nI0 (by omega)]; trivial, by rw [mj_nIc (by omega)]; omega⟩
      rw [q50_16, h0, if_neg n1, if_pos n2, mj_nIc (by omega), hyq, eLq, mj_bi_some, q50_33, if_neg (by decide), mj_nIs])
    have hstop : mj_den mj_P E (d + 7) 50 16 [.ref 159, .int (nI b), .int (nI (lxE y t b)), .float 0] [] (mj_hw w c hi hl) = mj_den mj_P E (d + 7) 50 42 [.ref 159, .int (nI b), .int (nI (lxE y t b)), .float 0] [] (mj_hw w c hi hl) := by
      rw [q50_16, h0]
      by_cases hend : t ≤ lxE y t b
      · rw [if_pos (by rw [mj_nIle (by omega) (by omega)]; exact hend)]
      · obtain ⟨yq, hyq⟩ := hy (lxE y t b) (by omega)
        have eLq := s_let (E := E) (d := d + 6) (w := w) (c := c) (hi := hi) (hl := hl) yq
        have hnl : ¬ bL y (lxE y t b) = true := fun z => (lx_ok (bL y) t _ (b + 1) rfl).2.2.2 ⟨by rw [← hEl]; omega, by rw [← hEl]; exact z⟩
        rw [if_neg hnl] at eLq
        have n1 : ¬ nI t ≤ nI (lxE y t b) := by rw [mj_nIle (by omega) (by omega)]; omega
        have n2 : (0 ≤ nI (lxE y t b) ∧ (nI (lxE y t b)).toNatClampNeg < 400) := ⟨by rw [mj_nI0 (by omega)]; trivial, by rw [mj_nIc (by omega)]; omega⟩
        rw [if_neg n1, if_pos n2, mj_nIc (by omega), hyq, eLq, mj_bi_some, q50_33, if_pos rfl]
    obtain ⟨v, ev, hv⟩ := s_kw (E := E) (d := d + 2) (c := c) (hi := hi) (hl := hl) (w := w) (a := b) (b := lxE y t b) (Y := fun q => nI (y q)) hw hE o1 (by omega) (fun q q1 q2 => by
      obtain ⟨yq, hyq⟩ := hy q (by omega)
      have := o3 hL q q1 q2
      unfold bL at this
      have := of_decide_eq_true this
      rw [hyq]
      exact (by_t (y q) yq).2.2.2.2.2.2.2.2.1 (by omega))
    rw [show mj_den mj_P E (d + 7) 50 16 [.ref 159, .int (nI b), .int (nI (b + 1)), .float 0] [] (mj_hw w c hi hl) = _ from lp, hstop, q50_42, ev, mj_bi_some, q50_48]
    rcases hv with ⟨j, j1, j2, j3⟩ | ⟨v1, v2⟩
    · have hne : ¬ v = -1 := fun z => by
        rw [j2] at z
        have : (0 : Int32) ≤ nI j := by rw [mj_nI0 (by have := (kl hw).2.1; omega)]; trivial
        rw [z] at this; exact absurd this (by decide)
      refine ⟨2, j, v, Or.inr (Or.inl ⟨hb, hL, Or.inl ⟨rfl, j1, j3⟩⟩), fun _ => j2, ?_⟩
      rw [if_pos hne, q50_59, q50_60, s_put hT h9, mj_bv_some, q50_65, q50_184]; rfl
    · refine ⟨4, 0, v, Or.inr (Or.inl ⟨hb, hL, Or.inr ⟨rfl, v2⟩⟩), fun z => absurd z (by omega), ?_⟩
      rw [if_neg (fun z => z v1), q50_60, s_put hT h9, mj_bv_some, q50_65, q50_184]; rfl
  · have hL2 : bL y b = false := by simpa using hL
    have eG := s_dig (E := E) (d := d + 6) (w := w) (c := c) (hi := hi) (hl := hl) yb
    rw [if_neg hL, if_pos rfl, q50_68, if_pos nb0, nbc, hyb, eG, mj_bi_some, q50_77]
    by_cases hG : bG y b = true
    · have hEl : lxE y t b = lx (bG y) t (b + 1) := by unfold lxE; rw [if_neg (by omega), if_neg hL, if_pos hG]
      have hgd : ∀ q, b ≤ q → q < lxE y t b → 48 ≤ y q ∧ y q ≤ 57 := fun q q1 q2 => by
        have := o4 hL2 hG q q1 q2
        unfold bG at this
        exact of_decide_eq_true this
      have hval : ∀ q, b ≤ q → q < lxE y t b → hi 173 q = nI (y q) := fun q q1 q2 => by
        obtain ⟨yq, hyq⟩ := hy q (by omega)
        have := hgd q q1 q2
        rw [hyq]
        exact (by_t (y q) yq).2.2.2.2.2.2.2.2.1 (by omega)
      have hb1 := hgd b (Nat.le_refl _) o1
      have hs0 : hi 173 b - 48 = nI (nmb y b 1) := by
        rw [hval b (Nat.le_refl _) o1, show (48 : Int32) = nI 48 from rfl, mj_nIsub (by omega)]
        show nI (y b - 48) = nI (0 * 10 + (y (b + 0) - 48))
        rw [Nat.zero_mul, Nat.zero_add, Nat.add_zero]
      rw [if_pos hG, if_neg (by decide), if_pos nb0, nbc, hs0]
      have lp := lp_from (fun q => mj_den mj_P E (d + 7) 50 90 [.ref 159, .int (nI b), .int (nI q), .int (nI (nmb y b (q - b)))] [] (mj_hw w c hi hl)) (b + 1) (lxE y t b) (by omega) (fun q q1 q2 => by
        show mj_den mj_P E (d + 7) 50 90 [.ref 159, .int (nI b), .int (nI q), .int (nI (nmb y b (q - b)))] [] (mj_hw w c hi hl) = mj_den mj_P E (d + 7) 50 90 [.ref 159, .int (nI b), .int (nI (q + 1)), .int (nI (nmb y b (q + 1 - b)))] [] (mj_hw w c hi hl)
        obtain ⟨yq, hyq⟩ := hy q (by omega)
        have eGq := s_dig (E := E) (d := d + 6) (w := w) (c := c) (hi := hi) (hl := hl) yq
        rw [if_pos (o4 hL2 hG q (by omega) q2), ← hyq] at eGq
        have n1 : ¬ nI t ≤ nI q := by rw [mj_nIle (by omega) (by omega)]; omega
        have n2 : (0 ≤ nI q ∧ (nI q).toNatClampNeg < 400) := ⟨by rw [mj_nI0 (by omega)]; trivial, by rw [mj_nIc (by omega)]; omega⟩
        have hq := hgd q (by omega) q2
        have ea : nI (nmb y b (q - b)) * 10 + hi 173 q - 48 = nI (nmb y b (q + 1 - b)) := by
          rw [hval q (by omega) q2, show (10 : Int32) = nI 10 from rfl, show (48 : Int32) = nI 48 from rfl, mj_nImul, mj_nIadd, mj_nIsub (by omega), show q + 1 - b = (q - b) + 1 by omega]
          show _ = nI (nmb y b (q - b) * 10 + (y (b + (q - b)) - 48))
          rw [show b + (q - b) = q by omega]; congr 1; omega
        rw [q50_90, h0, if_neg n1, if_pos n2, mj_nIc (by omega), eGq, mj_bi_some, q50_107, if_neg (by decide), if_pos n2, mj_nIc (by omega), ea, mj_nIs])
      have hstop : mj_den mj_P E (d + 7) 50 90 [.ref 159, .int (nI b), .int (nI (lxE y t b)), .int (nI (nmb y b (lxE y t b - b)))] [] (mj_hw w c hi hl) = mj_den mj_P E (d + 7) 50 131 [.ref 159, .int (nI b), .int (nI (lxE y t b)), .int (nI (nmb y b (lxE y t b - b)))] [] (mj_hw w c hi hl) := by
        rw [q50_90, h0]
        by_cases hend : t ≤ lxE y t b
        · rw [if_pos (by rw [mj_nIle (by omega) (by omega)]; exact hend)]
        · obtain ⟨yq, hyq⟩ := hy (lxE y t b) (by omega)
          have eGq := s_dig (E := E) (d := d + 6) (w := w) (c := c) (hi := hi) (hl := hl) yq
          have hnl : ¬ bG y (lxE y t b) = true := fun z => (lx_ok (bG y) t _ (b + 1) rfl).2.2.2 ⟨by rw [← hEl]; omega, by rw [← hEl]; exact z⟩
          rw [if_neg hnl] at eGq
          have n1 : ¬ nI t ≤ nI (lxE y t b) := by rw [mj_nIle (by omega) (by omega)]; omega
          have n2 : (0 ≤ nI (lxE y t b) ∧ (nI (lxE y t b)).toNatClampNeg < 400) := ⟨by rw [mj_nI0 (by omega)]; trivial, by rw [mj_nIc (by omega)]; omega⟩
          rw [if_neg n1, if_pos n2, mj_nIc (by omega), hyq, eGq, mj_bi_some, q50_107, if_pos rfl]
      have lp' : mj_den mj_P E (d + 7) 50 90 [.ref 159, .int (nI b), .int (nI (b + 1)), .int (nI (nmb y b 1))] [] (mj_hw w c hi hl) = mj_den mj_P E (d + 7) 50 90 [.ref 159, .int (nI b), .int (nI (lxE y t b)), .int (nI (nmb y b (lxE y t b - b)))] [] (mj_hw w c hi hl) := by
        have := lp
        simp only [show b + 1 - b = 1 by omega] at this
        exact this
      have e4 : nI (lxE y t b) - nI b = nI (lxE y t b - b) := mj_nIsub (by omega)
      rw [lp', hstop, q50_131, e4]
      by_cases h4 : lxE y t b - b ≤ 4
      · refine ⟨1, nmb y b (lxE y t b - b), _, Or.inr (Or.inr (Or.inl ⟨hb, hL2, hG, Or.inl ⟨rfl, h4, rfl⟩⟩)), fun _ => rfl, ?_⟩
        rw [if_pos (by rw [show (4 : Int32) = nI 4 from rfl, mj_nIle (by omega) (by omega)]; exact h4), q50_143, q50_144, s_put hT h9, mj_bv_some, q50_149, q50_184]; rfl
      · refine ⟨4, 0, nI (nmb y b (lxE y t b - b)), Or.inr (Or.inr (Or.inl ⟨hb, hL2, hG, Or.inr ⟨rfl, by omega⟩⟩)), fun z => absurd z (by omega), ?_⟩
        rw [if_neg (by rw [show (4 : Int32) = nI 4 from rfl, mj_nIle (by omega) (by omega)]; exact h4), q50_144, s_put hT h9, mj_bv_some, q50_149, q50_184]; rfl
    · have hG2 : bG y b = false := by simpa using hG
      have hEl : lxE y t b = b + 1 := by unfold lxE; rw [if_neg (by omega), if_neg hL, if_neg hG]
      have hch := (by_t (y b) yb).2.2.2.2.2.2.2.2.2
      obtain ⟨v, ev, hv⟩ := s_sidx (E := E) (d := d + 1) (w := w) (c := c) (hi := hi) (hl := hl) hE yb
      rw [if_neg hG, if_pos rfl, q50_152, if_pos nb0, nbc, hyb, hch, ev, mj_bi_some, q50_171, hEl]
      by_cases hS : bS (y b) = true
      · refine ⟨3, y b, _, Or.inr (Or.inr (Or.inr ⟨hb, hL2, hG2, Or.inl ⟨rfl, hS, rfl⟩⟩)), fun _ => rfl, ?_⟩
        rw [if_neg (fun z => (hv.mp z) (of_decide_eq_true hS)), q50_179, s_put hT h9, mj_bv_some, q50_184]; rfl
      · refine ⟨4, 0, nI (y b), Or.inr (Or.inr (Or.inr ⟨hb, hL2, hG2, Or.inr ⟨rfl, hS⟩⟩)), fun z => absurd z (by omega), ?_⟩
        rw [if_pos (hv.mpr (fun z => hS (decide_eq_true z))), q50_178, q50_179, s_put hT h9, mj_bv_some, q50_184]; rfl
end MJZ4
