/-! what the small machine's things are on the real heap -/
abbrev mj_G : Type := Nat × (Nat → Value) × (Nat → ClassId) × (Nat → Nat → Nat) × ClassId × ClassId × ClassId × ClassId
def mj_cv (G : mj_G) : Value → Value
  | .ref a => .ref (G.1 + a)
  | .retAddr j => G.2.1 j
  | v => v
def mj_fc (d : String) : Nat := if d = "I" then 0 else if d = "Z" then 1 else if d = "J" then 2 else 3
def mj_op (G : mj_G) : Value → Option Nat
  | .ref a => some (G.1 + a)
  | _ => none
def mj_fv (G : mj_G) (h : mj_H) (a fc k : Nat) : Value := match fc with
  | 0 => .int (h.1 a k)
  | 1 => .int (h.1 a k)
  | 2 => .long (h.2.1 a k)
  | _ => mj_cv G (h.2.2.1 a k)
def mj_ob (G : mj_G) (h : mj_H) (a ci : Nat) : List Value := match vwCl[ci]? with
  | some q => (List.range q.2.2).map (fun k => mj_fv G h a (mj_fc (q.2.1 k).2.2.1) k)
  | none => []
def mj_en (G : mj_G) (h : mj_H) (a kd ln : Nat) : va_E :=
  if kd = 100 then .inl (G.2.2.2.2.1, ln, .inl (h.1 a)) else
  if kd = 101 then .inl (G.2.2.2.2.2.1, ln, .inr (.inl (h.2.1 a))) else
  if kd = 102 then .inl (G.2.2.2.2.2.2.1, ln, .inl (h.1 a)) else
  if kd = 103 then .inl (G.2.2.2.2.2.2.2, ln, .inr (.inr (.inr (.inr (fun i => mj_op G (h.2.2.1 a i)))))) else
  .inr (kd, mj_ob G h a kd)
abbrev mj_D (G : mj_G) : va_G := (G.2.2.1, G.2.2.2.1)
abbrev mj_ty (G : mj_G) : List (ClassId × FieldType) := [(G.2.2.2.2.1, .int), (G.2.2.2.2.2.1, .long), (G.2.2.2.2.2.2.1, .byte), (G.2.2.2.2.2.2.2, .object "LastToWince$Room")]
def mj_ws (G : mj_G) (h : mj_H) : va_W := (List.range h.2.2.2.length).map (fun a => (G.1 + a, mj_en G h a (mj_kd h a) (mj_ln h a)))
abbrev mj_A (G : mj_G) : Nat → Prop := fun q => G.1 ≤ q
def mj_sl (h : mj_H) : Nat := (h.2.2.2.map Prod.snd).sum
theorem mj_nth_lt {l : List (Nat × Nat)} {a : Nat} (h : (mj_nth l a).1 ≠ 999) : a < l.length := by
  induction l generalizing a with
  | nil => exact absurd rfl h
  | cons q t ih =>
    cases a with
    | zero => simp
    | succ n => simpa using ih (a := n) h
theorem mj_kd_lt {h : mj_H} {a kd : Nat} (e : mj_kd h a = kd) (hk : kd ≠ 999) : a < h.2.2.2.length := mj_nth_lt (by unfold mj_kd at e; rw [e]; exact hk)
theorem mj_nth_app {l t : List (Nat × Nat)} {a : Nat} (h : a < l.length) : mj_nth (l ++ t) a = mj_nth l a := by
  induction l generalizing a with
  | nil => exact absurd h (by simp)
  | cons q l ih =>
    cases a with
    | zero => rfl
    | succ n => exact ih (by simpa using h)
theorem mj_nth_end {l : List (Nat × Nat)} {q : Nat × Nat} : mj_nth (l ++ [q]) l.length = q := by
  induction l with
  | nil => rfl
  | cons a l ih => exact ih
theorem mj_ws_at {G : mj_G} {h : mj_H} {a : Nat} (ha : a < h.2.2.2.length) : (mj_ws G h)[a]? = some (G.1 + a, mj_en G h a (mj_kd h a) (mj_ln h a)) := by
  simp [mj_ws, ha]
theorem mj_ws_len (G : mj_G) (h : mj_H) : (mj_ws G h).length = h.2.2.2.length := by simp [mj_ws]
theorem mj_ws_kd {G : mj_G} {h : mj_H} {a kd : Nat} (e : mj_kd h a = kd) (hk : kd ≠ 999) : (mj_ws G h)[a]? = some (G.1 + a, mj_en G h a kd (mj_ln h a)) := by
  rw [mj_ws_at (mj_kd_lt e hk), e]
theorem mj_ws_D (G : mj_G) (h : mj_H) : va_D (mj_A G) (mj_ws G h) := by
  refine ⟨fun i j p q hi hj e => ?_, fun k q hk => ?_⟩
  · have li : i < h.2.2.2.length := by rw [← mj_ws_len G h]; exact (List.getElem?_eq_some_iff.mp hi).1
    have lj : j < h.2.2.2.length := by rw [← mj_ws_len G h]; exact (List.getElem?_eq_some_iff.mp hj).1
    rw [mj_ws_at li] at hi; rw [mj_ws_at lj] at hj
    cases hi; cases hj
    simp at e; exact e
  · have lk : k < h.2.2.2.length := by rw [← mj_ws_len G h]; exact (List.getElem?_eq_some_iff.mp hk).1
    rw [mj_ws_at lk] at hk; cases hk
    exact Nat.le_add_right _ _
/-- the world after one cell's change -/
theorem mj_ws_set {G : mj_G} {h h' : mj_H} {a kd ln : Nat} (hc : h'.2.2.2 = h.2.2.2) (hk : mj_kd h a = kd) (hl : mj_ln h a = ln)
    (ho : ∀ b, b ≠ a → mj_en G h' b (mj_kd h b) (mj_ln h b) = mj_en G h b (mj_kd h b) (mj_ln h b)) : mj_ws G h' = (mj_ws G h).set a (G.1 + a, mj_en G h' a kd ln) := by
  subst hk; subst hl
  have hkd : ∀ b, mj_kd h' b = mj_kd h b := fun b => by unfold mj_kd; rw [hc]
  have hln : ∀ b, mj_ln h' b = mj_ln h b := fun b => by unfold mj_ln; rw [hc]
  apply List.ext_getElem?
  intro b
  rw [List.getElem?_set]
  by_cases lb : b < h.2.2.2.length
  · rw [mj_ws_at (by rw [hc]; exact lb), hkd, hln]
    by_cases e : a = b
    · subst e
      simp [mj_ws_len, lb]
    · rw [if_neg e, mj_ws_at lb, ho b (fun x => e x.symm)]
  · have h1 : (mj_ws G h')[b]? = none := by rw [List.getElem?_eq_none_iff, mj_ws_len, hc]; omega
    have h2 : (mj_ws G h)[b]? = none := by rw [List.getElem?_eq_none_iff, mj_ws_len]; omega
    rw [h1, h2]
    by_cases e : a = b
    · subst e
      simp [mj_ws_len, lb]
    · rw [if_neg e]
theorem mj_ob_ext {G : mj_G} {h h' : mj_H} {b ci : Nat} (h1 : ∀ y, h'.1 b y = h.1 b y) (h2 : ∀ y, h'.2.1 b y = h.2.1 b y) (h3 : ∀ y, h'.2.2.1 b y = h.2.2.1 b y) : mj_ob G h' b ci = mj_ob G h b ci := by
  have hf : ∀ fc k, mj_fv G h' b fc k = mj_fv G h b fc k := fun fc k => by unfold mj_fv; rw [h1, h2, h3]
  unfold mj_ob
  simp only [hf]
theorem mj_en_ext {G : mj_G} {h h' : mj_H} {b kd ln : Nat} (h1 : ∀ y, h'.1 b y = h.1 b y) (h2 : ∀ y, h'.2.1 b y = h.2.1 b y) (h3 : ∀ y, h'.2.2.1 b y = h.2.2.1 b y) : mj_en G h' b kd ln = mj_en G h b kd ln := by
  have e1 : h'.1 b = h.1 b := funext h1
  have e2 : h'.2.1 b = h.2.1 b := funext h2
  have e3 : h'.2.2.1 b = h.2.2.1 b := funext h3
  unfold mj_en
  rw [mj_ob_ext h1 h2 h3, e1, e2, e3]
/-- a new cell's world -/
theorem mj_ws_new {G : mj_G} {h : mj_H} {kd ln : Nat} : mj_ws G (mj_new kd ln h) = mj_ws G h ++ [(G.1 + h.2.2.2.length, mj_en G (mj_new kd ln h) h.2.2.2.length kd ln)] := by
  have hc : (mj_new kd ln h).2.2.2 = h.2.2.2 ++ [(kd, ln)] := rfl
  apply List.ext_getElem?
  intro b
  by_cases lb : b < h.2.2.2.length
  · rw [mj_ws_at (by rw [hc]; simp; omega), List.getElem?_append_left (by rw [mj_ws_len]; exact lb), mj_ws_at lb]
    have e1 : mj_kd (mj_new kd ln h) b = mj_kd h b := by unfold mj_kd; rw [hc, mj_nth_app lb]
    have e2 : mj_ln (mj_new kd ln h) b = mj_ln h b := by unfold mj_ln; rw [hc, mj_nth_app lb]
    rw [e1, e2, mj_en_ext (h := h)]
    · intro y; simp only [mj_new, mj_ur]; rw [if_neg (by omega)]
    · intro y; simp only [mj_new, mj_ur]; rw [if_neg (by omega)]
    · intro y; simp only [mj_new, mj_ur]; rw [if_neg (by omega)]
  · by_cases e : b = h.2.2.2.length
    · subst e
      rw [mj_ws_at (by rw [hc]; simp), List.getElem?_append_right (by rw [mj_ws_len]; exact Nat.le_refl _), mj_ws_len]
      have e1 : mj_kd (mj_new kd ln h) h.2.2.2.length = kd := by unfold mj_kd; rw [hc, mj_nth_end]
      have e2 : mj_ln (mj_new kd ln h) h.2.2.2.length = ln := by unfold mj_ln; rw [hc, mj_nth_end]
      rw [e1, e2]; simp
    · have h1 : (mj_ws G (mj_new kd ln h))[b]? = none := by rw [List.getElem?_eq_none_iff, mj_ws_len, hc]; simp; omega
      rw [h1]
      symm
      rw [List.getElem?_eq_none_iff]; simp [mj_ws_len]; omega
/-! locals -/
def mj_lv (f : Value → Value) : Nat → List Value → List (Nat × Value)
  | _, [] => []
  | i, .float _ :: t => mj_lv f (i + 1) t
  | i, v :: t => (i, f v) :: mj_lv f (i + 1) t
def mj_fl : Value → Bool
  | .float _ => true
  | _ => false
theorem mj_lv_cons {f : Value → Value} {i : Nat} {v : Value} {t : List Value} (h : mj_fl v = false) : mj_lv f i (v :: t) = (i, f v) :: mj_lv f (i + 1) t := by
  cases v <;> first | rfl | (simp [mj_fl] at h)
theorem mj_lv_mem {f : Value → Value} {ls : List Value} {i j : Nat} {w : Value} : (j, w) ∈ mj_lv f i ls ↔ i ≤ j ∧ mj_fl (mj_at ls (j - i)) = false ∧ w = f (mj_at ls (j - i)) := by
  induction ls generalizing i with
  | nil => simp [mj_lv, mj_at, mj_fl]
  | cons v t ih =>
    by_cases hv : mj_fl v = false
    · rw [mj_lv_cons hv, List.mem_cons, ih]
      constructor
      · rintro (h | ⟨h1, h2, h3⟩)
        · cases h; simp [mj_at, hv]
        · obtain ⟨k, rfl⟩ : ∃ k, j = i + 1 + k := ⟨j - (i + 1), by omega⟩
          rw [show i + 1 + k - (i + 1) = k by omega] at h2 h3
          rw [show i + 1 + k - i = k + 1 by omega]
          exact ⟨by omega, h2, h3⟩
      · rintro ⟨h1, h2, h3⟩
        by_cases e : j = i
        · subst e; left; rw [h3]; simp [mj_at]
        · right
          obtain ⟨k, rfl⟩ : ∃ k, j = i + 1 + k := ⟨j - (i + 1), by omega⟩
          rw [show i + 1 + k - i = k + 1 by omega] at h2 h3
          rw [show i + 1 + k - (i + 1) = k by omega]
          exact ⟨by omega, h2, h3⟩
    · have hv' : mj_fl v = true := by simpa using hv
      have e : mj_lv f i (v :: t) = mj_lv f (i + 1) t := by cases v <;> first | rfl | (simp [mj_fl] at hv')
      rw [e, ih]
      constructor
      · rintro ⟨h1, h2, h3⟩
        obtain ⟨k, rfl⟩ : ∃ k, j = i + 1 + k := ⟨j - (i + 1), by omega⟩
        rw [show i + 1 + k - (i + 1) = k by omega] at h2 h3
        rw [show i + 1 + k - i = k + 1 by omega]
        exact ⟨by omega, h2, h3⟩
      · rintro ⟨h1, h2, h3⟩
        by_cases e : j = i
        · subst e; simp [mj_at, hv'] at h2
        · obtain ⟨k, rfl⟩ : ∃ k, j = i + 1 + k := ⟨j - (i + 1), by omega⟩
          rw [show i + 1 + k - i = k + 1 by omega] at h2 h3
          rw [show i + 1 + k - (i + 1) = k by omega]
          exact ⟨by omega, h2, h3⟩
theorem mj_set_len (ls : List Value) (i : Nat) (v : Value) : (mj_set ls i v).length = ls.length := by
  induction ls generalizing i with
  | nil => rfl
  | cons w t ih => cases i <;> simp [mj_set, ih]
theorem mj_at_set (ls : List Value) (i j : Nat) (v : Value) : mj_at (mj_set ls i v) j = if j = i ∧ i < ls.length then v else mj_at ls j := by
  induction ls generalizing i j with
  | nil => simp [mj_set]
  | cons w t ih =>
    cases i with
    | zero => cases j <;> simp [mj_set, mj_at]
    | succ n =>
      cases j with
      | zero => simp [mj_set, mj_at]
      | succ k => simp [mj_set, mj_at, ih]
theorem mj_brk_len (ls : List Value) (i : Nat) : (mj_brk ls i).length = ls.length := by
  cases i with
  | zero => rfl
  | succ n => simp only [mj_brk]; split <;> simp [mj_set_len]
theorem mj_sto_len (ls : List Value) (i : Nat) (v : Value) : (mj_sto ls i v).length = ls.length := by simp [mj_sto, mj_set_len, mj_brk_len]
theorem mj_at_lt {ls : List Value} {n : Nat} (h : mj_fl (mj_at ls n) = false) : n < ls.length := by
  induction ls generalizing n with
  | nil => simp [mj_at, mj_fl] at h
  | cons v t ih =>
    cases n with
    | zero => simp
    | succ k => simpa using ih (n := k) h
