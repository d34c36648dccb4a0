/-! what class and reference have in common: the invariant. C: the class's world seen from its first cell, M: the reference's cells -/
abbrev mj_HI := Nat → Nat → Int32
def iv_cnt (p : Nat → Bool) : Nat → Nat
  | 0 => 0
  | n + 1 => iv_cnt p n + (if p n then 1 else 0)
/-- a room R (its cells from 0 on) and a row v of the reference -/
def iv_IR (n l : Nat) (R : mj_HI) (v : Nat → Int32) (M : mj_HI) : Prop :=
  (R 0 0 = nI n ∧ R 0 1 = nI l ∧ R 0 2 = v 3 ∧ R 0 3 = v 0 ∧ R 0 4 = v 4 ∧ R 0 5 = v 1 ∧ R 0 6 = v 2) ∧ (∃ b, b ≤ 150 ∧ v 2 = nI b) ∧ (∀ d, d < 10 → R 1 d = v (5 + d) ∧ R 2 d = M 209 d ∧ R 3 d = v (15 + d) ∧ R 4 d = M 210 d ∧ R 5 d = v (25 + d) ∧ R 6 d = v (35 + d)) ∧ (∀ d, d < n → R 7 d = nI (iv_cnt (fun k => decide (v (45 + k) = nI (d + 1))) l)) ∧ (∀ k, k < 12 → R 8 k = M 211 k ∧ R 9 k = M 212 k) ∧ (∀ k, k < l → R 10 k = v (45 + k) - 1 ∧ ∃ s, s ≤ n ∧ v (45 + k) = nI s) ∧ (∀ d, d < n → ∃ p, p ≤ 9999 ∧ v (15 + d) = nI p)
/-- where the reference's code stands for the class's i-th -/
def iv_ph (ops : Nat → Int32) (i : Nat) : Nat := i + iv_cnt (fun k => decide (ops k = 14)) i
/-- one code of the class and its like in the reference, at p -/
def iv_cor (op arg : Int32) (mo ma : Nat → Int32) (p : Nat) : Prop :=
  (∃ x, x < 10 ∧ op = nI x ∧ mo p = 1 ∧ ma p = nI x) ∨ (op = 10 ∧ mo p = 0 ∧ ma p = arg) ∨ (op = 14 ∧ mo p = 0 ∧ ma p = arg ∧ ¬ arg = 0 ∧ mo (p + 1) = 5) ∨ (op = 11 ∧ mo p = 2) ∨ (op = 12 ∧ mo p = 3) ∨ (op = 13 ∧ mo p = 4) ∨ (op = 15 ∧ mo p = 6) ∨ (op = 16 ∧ mo p = 7) ∨ (op = 17 ∧ mo p = 8) ∨ (op = 18 ∧ mo p = 9) ∨ (op = 19 ∧ mo p = 10) ∨ (op = 20 ∧ mo p = 11)
/-- a stack of kinds (true: 0 or 1) behind one code -/
def iv_ty (op : Int32) (ts : List Bool) : Option (List Bool) :=
  if 0 ≤ op ∧ op ≤ 10 then (if ts.length < 32 then some (false :: ts) else none)
  else if op = 18 then (match ts with | true :: r => some (true :: r) | _ => none)
  else if op = 14 then (match ts with | false :: r => some (false :: r) | _ => none)
  else if op = 11 ∨ op = 12 ∨ op = 13 then (match ts with | false :: false :: r => some (false :: r) | _ => none)
  else if op = 15 ∨ op = 16 ∨ op = 17 then (match ts with | false :: false :: r => some (true :: r) | _ => none)
  else if op = 19 ∨ op = 20 then (match ts with | true :: true :: r => some (true :: r) | _ => none)
  else none
/-- behind n codes from i on -/
def iv_tys (ops : Nat → Int32) (i : Nat) : Nat → List Bool → Option (List Bool)
  | 0, ts => some ts
  | n + 1, ts => (iv_tys ops i n ts).bind (fun us => iv_ty (ops (i + n)) us)
def iv_ILaw (C M : mj_HI) : Prop := ∃ L len, L ≤ 16 ∧ len ≤ 400 ∧ iv_ph (C 17) len ≤ 400 ∧ C 12 0 = nI L ∧ M 216 0 = nI L ∧ (∀ i, i < len → iv_cor (C 17 i) (C 18 i) (M 221) (M 222) (iv_ph (C 17) i)) ∧ (∀ i, i < L → C 13 i = M 217 i ∧ ∃ cb cw cc, cb ≤ cw ∧ cw ≤ cc ∧ cc ≤ len ∧ C 14 i = nI cb ∧ C 15 i = nI cw ∧ C 16 i = nI cc ∧ M 218 i = nI (iv_ph (C 17) cb) ∧ M 219 i = nI (iv_ph (C 17) cw) ∧ M 220 i = nI (iv_ph (C 17) cc) ∧ iv_tys (C 17) cb (cw - cb) [] = some [false] ∧ (cw = cc ∨ iv_tys (C 17) cw (cc - cw) [] = some [true]))
def iv_ISay (C M : mj_HI) : Prop := ∃ s, s ≤ 16 ∧ C 21 0 = nI s ∧ M 205 36 = nI s ∧ ∀ i, i < s → C 23 i = M 224 (2 * i) ∧ ∃ y, 1 ≤ y ∧ y ≤ 60 ∧ C 24 i = nI y ∧ M 224 (2 * i + 1) = nI y
def iv_pin (f t : Nat → Nat) (d p : Nat) : Int32 := mj_fd (fun i s => if f i = d then s ||| ((1 : Int32) <<< (nI (t i) &&& 31)) else s) p 0
def iv_IPin (n : Nat) (C M : mj_HI) : Prop := ∃ p, ∃ f t : Nat → Nat, p ≤ 16 ∧ C 25 0 = nI p ∧ M 205 38 = nI p ∧ (∀ i, i < p → C 27 i = nI (f i) ∧ C 28 i = nI (t i) ∧ f i < n ∧ t i < n ∧ f i ≠ t i) ∧ ∀ d, d < 10 → M 225 d = iv_pin f t d p
def iv_ISale (n l : Nat) (C M : mj_HI) : Prop := ∃ s, s ≤ 16 ∧ C 29 0 = nI s ∧ M 205 40 = nI s ∧ ∀ i, i < s → ∃ x y, x ≤ 2 ∧ C 30 i = nI x ∧ M 226 (3 * i) = nI x ∧ C 31 i = nI y ∧ M 226 (3 * i + 1) = nI y ∧ y < (if x = 0 then l else n) ∧ ((C 32 i = -1 ∧ M 226 (3 * i + 2) = 0) ∨ (x = 0 ∧ C 32 i = 3 ∧ M 226 (3 * i + 2) = 1) ∨ (x = 0 ∧ C 32 i = 4 ∧ M 226 (3 * i + 2) = 2))
def iv_ISeen (C M : mj_HI) : Prop := ∃ s, ∃ a b : Nat → Nat, s ≤ 16 ∧ C 33 0 = nI s ∧ M 205 48 = nI s ∧ (∀ i, i < s → C 34 i = nI (a i) ∧ C 35 i = nI (b i) ∧ a i < 10 ∧ b i < 10 ∧ a i ≠ b i) ∧ ∀ x y, x < 10 → y < 10 → M 230 (10 * x + y) = nI (iv_cnt (fun i => decide (a i = x ∧ b i = y)) s)
def iv_IClaim (C M : mj_HI) : Prop := ∃ s, s ≤ 6 ∧ C 33 3 = nI s ∧ M 205 51 = nI s ∧ ∀ i, i < s → ∃ x, x ≤ 999 ∧ C 36 i = nI x ∧ M 232 i = nI x
def iv_IPut (C M : mj_HI) : Prop := ∀ i, i < 8 → ∃ x, x < 1024 ∧ C 37 i = nI x ∧ M 233 i = nI x
def iv_IBring (C M : mj_HI) : Prop := ∃ s, s ≤ 7 ∧ C 33 6 = nI s ∧ M 205 54 = nI s ∧ ∀ i, i < s → ∃ x y, x ≤ 99 ∧ y ≤ 9 ∧ C 38 i = nI x ∧ M 234 i = nI x ∧ C 39 i = nI y ∧ M 235 i = nI y
def iv_IBrea (C M : mj_HI) : Prop := ∃ s, s ≤ 12 ∧ C 33 9 = nI s ∧ M 205 58 = nI s ∧ ∀ i, i < s → ∃ x, x ≤ 99 ∧ C 40 i = nI x ∧ M 237 i = nI x
def iv_IBook (C M : mj_HI) : Prop := ∀ i, i < 150 → C 41 i = M 213 (4 * i) ∧ C 42 i = M 213 (4 * i + 1) ∧ C 43 i = M 213 (4 * i + 2) ∧ C 44 i = M 213 (4 * i + 3)
def iv_IWo (l : Nat) (M : mj_HI) : Prop := ∀ k, k < l → ∃ x, x ≤ 999 ∧ M 212 k = nI x
/-- a world -/
def iv_IW (n l : Nat) (C M : mj_HI) : Prop := n ≤ 10 ∧ l ≤ 12 ∧ M 205 6 = nI n ∧ M 205 7 = nI l ∧ iv_IR n l (fun j => C (1 + j)) (M 206) M ∧ iv_IWo l M ∧ iv_ILaw C M ∧ iv_ISay C M ∧ iv_IPin n C M ∧ iv_ISale n l C M ∧ iv_ISeen C M ∧ iv_IClaim C M ∧ iv_IPut C M ∧ iv_IBring C M ∧ iv_IBrea C M ∧ iv_IBook C M
/-- which places of a world's cells are looked at -/
def iv_wl (j : Nat) : Nat := match j with
  | 1 => 7 | 2 => 10 | 3 => 10 | 4 => 10 | 5 => 10 | 6 => 10 | 7 => 10 | 8 => 10 | 9 => 12 | 10 => 12 | 11 => 12 | 12 => 2 | 13 => 16 | 14 => 16 | 15 => 16 | 16 => 16 | 17 => 400 | 18 => 400 | 21 => 1 | 22 => 16 | 23 => 16 | 24 => 16 | 25 => 1 | 26 => 16 | 27 => 16 | 28 => 16 | 29 => 1 | 30 => 16 | 31 => 16 | 32 => 16 | 33 => 10 | 34 => 16 | 35 => 16 | 36 => 6 | 37 => 8 | 38 => 7 | 39 => 7 | 40 => 12 | 41 => 150 | 42 => 150 | 43 => 150 | 44 => 150 | _ => 0
def iv_pw (j k : Nat) : Bool := decide (k < iv_wl j ∧ (j ≠ 33 ∨ k % 3 = 0))
/-- and of the reference's -/
def iv_ml (a : Nat) : Nat := match a with
  | 206 => 57 | 209 => 10 | 210 => 10 | 211 => 12 | 212 => 12 | 213 => 600 | 216 => 1 | 217 => 16 | 218 => 16 | 219 => 16 | 220 => 16 | 221 => 400 | 222 => 400 | 224 => 32 | 225 => 10 | 226 => 48 | 230 => 100 | 232 => 6 | 233 => 8 | 234 => 7 | 235 => 7 | 237 => 12 | _ => 0
def iv_pm (a k : Nat) : Bool := decide (k < iv_ml a ∨ (a = 205 ∧ (k = 6 ∨ k = 7 ∨ k = 36 ∨ k = 38 ∨ k = 40 ∨ k = 48 ∨ k = 51 ∨ k = 54 ∨ k = 58)))
def iv_vC (b : Nat) (h : mj_HI) : mj_HI := fun j k => if iv_pw j k = true then h (b + j) k else 0
def iv_vM (m : mj_HI) : mj_HI := fun a k => if iv_pm a k = true then m a k else 0
/-- a room's cells -/
def iv_vR (r : Nat) (h : mj_HI) : mj_HI := fun j k => if j < 11 ∧ k < iv_wl (1 + j) then h (r + j) k else 0
/-- the image as the reference keeps it, told as its cells -/
def iv_dec (m : mj_HI) : mj_HI := fun a k => m 241 (match a with
  | 206 => k | 209 => 66 + 3 * k | 210 => 67 + 3 * k | 225 => 68 + 3 * k | 211 => 96 + 3 * k | 212 => 97 + 3 * k | 237 => 98 + 3 * k | 230 => 132 + k | 232 => 232 + k | 234 => 238 + 2 * k | 235 => 239 + 2 * k | 233 => 252 + k | 224 => 260 + k | 226 => 292 + k | 213 => 340 + k | 216 => 940 | 217 => 941 + 4 * k | 218 => 942 + 4 * k | 219 => 943 + 4 * k | 220 => 944 + 4 * k | 221 => 1005 + 2 * k | 222 => 1006 + 2 * k
  | _ => if k = 6 then 57 else if k = 7 then 58 else if k = 36 then 59 else if k = 38 then 60 else if k = 40 then 61 else if k = 48 then 62 else if k = 51 then 63 else if k = 54 then 64 else 65)
def iv_IPast (n l : Nat) (h m : mj_HI) : Prop := ∃ u x, u ≤ 6 ∧ x < 6 ∧ h 91 0 = nI u ∧ m 205 3 = nI u ∧ h 91 1 = nI x ∧ ∀ j, j < u → iv_IR n l (iv_vR (93 + 11 * ((x + 5 - j) % 6)) h) (fun k => m 207 (57 * (u - 1 - j) + k)) (iv_vM m)
def iv_IImg (h m : mj_HI) : Prop := (h 0 2 = 0 ∧ m 205 64 = 0) ∨ (h 0 2 = 1 ∧ m 205 64 = 1 ∧ ∃ n l, iv_IW n l (iv_vC 46 h) (iv_vM (iv_dec m)))
def iv_IRead (h m : mj_HI) : Prop := ∃ t, t ≤ 400 ∧ h 159 0 = nI t ∧ m 205 14 = nI t ∧ h 159 1 = m 205 34 ∧ h 159 2 = m 205 35 ∧ ∀ i, i < t → ∃ y, y < 256 ∧ m 214 i = nI y ∧ h 173 i = (nI y).toInt8.toInt32
def iv_nim : List Int32 := [0, 1, 0, 2, 1, 3, 0, 4, 2, 5, 1, 6, 3]
def iv_wds : List Int32 := [32, 119, 105, 110, 99, 101, 32, 112, 114, 105, 99, 101, 32, 99, 97, 108, 109, 32, 119, 104, 101, 110, 32, 111, 114, 32, 97, 110, 100, 32, 110, 111, 116, 32, 110, 101, 114, 118, 101, 32, 115, 107, 105, 110, 32, 98, 108, 105, 110, 100, 32, 119, 105, 110, 99, 101, 100, 32, 107, 105, 110, 100, 32, 119, 111, 114, 116, 104, 32, 119, 111, 114, 100, 32, 109, 105, 110, 117, 116, 101, 32, 100, 97, 114, 107, 32, 105, 110, 32, 115, 97, 121, 32, 102, 111, 114, 32, 100, 101, 97, 108, 101, 114, 32, 112, 105, 110, 99, 104, 101, 115, 32, 108, 111, 116, 32, 108, 105, 103, 104, 116, 32, 98, 97, 114, 32, 97, 100, 109, 105, 116, 32]
def iv_IConst (h m : mj_HI) : Prop := m 205 5 = 0 ∧ (∀ k, k < 13 → h 203 k = iv_nim.getD k 0) ∧ (∀ k, k < 132 → m 215 k = iv_wds.getD k 0)
/-- all of it: h holds the class, m the reference -/
def iv_I (h m : mj_HI) : Prop := (∃ n l, iv_IW n l (iv_vC 1 h) (iv_vM m) ∧ iv_IPast n l h m) ∧ iv_IImg h m ∧ iv_IRead h m ∧ iv_IConst h m
/-- it looks at these places of the class alone -/
def iv_lc (a k : Nat) : Prop := (1 ≤ a ∧ a ≤ 45 ∧ iv_pw (a - 1) k = true) ∨ (46 ≤ a ∧ a ≤ 90 ∧ iv_pw (a - 46) k = true) ∨ (91 ≤ a ∧ a ≤ 158) ∨ (a = 0 ∧ k = 2) ∨ (a = 159 ∧ k ≤ 2) ∨ a = 173 ∨ a = 203
/-- and of the reference -/
def iv_lm (a k : Nat) : Prop := iv_pm a k = true ∨ a = 207 ∨ a = 214 ∨ a = 215 ∨ a = 241 ∨ (a = 205 ∧ (k = 3 ∨ k = 5 ∨ k = 14 ∨ k = 34 ∨ k = 35 ∨ k = 64))
theorem iv_vC_congr {b b' : Nat} {h h' : mj_HI} (e : ∀ j k, iv_pw j k = true → h' (b' + j) k = h (b + j) k) : iv_vC b' h' = iv_vC b h := by
  funext j k
  unfold iv_vC
  by_cases q : iv_pw j k = true
  · rw [if_pos q, if_pos q, e j k q]
  · rw [if_neg q, if_neg q]
theorem iv_vM_congr {m m' : mj_HI} (e : ∀ a k, iv_pm a k = true → m' a k = m a k) : iv_vM m' = iv_vM m := by
  funext j k
  unfold iv_vM
  by_cases q : iv_pm j k = true
  · rw [if_pos q, if_pos q, e j k q]
  · rw [if_neg q, if_neg q]
theorem iv_vR_congr {r r' : Nat} {h h' : mj_HI} (e : ∀ j k, j < 11 → k < iv_wl (1 + j) → h' (r' + j) k = h (r + j) k) : iv_vR r' h' = iv_vR r h := by
  funext j k
  unfold iv_vR
  by_cases q : j < 11 ∧ k < iv_wl (1 + j)
  · rw [if_pos q, if_pos q, e j k q.1 q.2]
  · rw [if_neg q, if_neg q]
theorem iv_dec_congr {m m' : mj_HI} (e : ∀ k, m' 241 k = m 241 k) : iv_dec m' = iv_dec m := by
  funext a k; unfold iv_dec; rw [e]
theorem iv_I_congr {h h' m m' : mj_HI} (hc : ∀ a k, iv_lc a k → h' a k = h a k) (hm : ∀ a k, iv_lm a k → m' a k = m a k) (q : iv_I h m) : iv_I h' m' := by
  have hpwlt : ∀ j k, iv_pw j k = true → j ≤ 44 := by
    intro j k h1
    unfold iv_pw at h1
    have h2 := (of_decide_eq_true h1).1
    by_cases h3 : j ≤ 44
    · exact h3
    · exfalso
      have : iv_wl j = 0 := by
        unfold iv_wl
        split <;> first | omega | rfl
      omega
  have e1 : iv_vC 1 h' = iv_vC 1 h := iv_vC_congr (fun j k hp => hc _ _ (Or.inl ⟨by omega, by have := hpwlt j k hp; omega, by rw [show 1 + j - 1 = j by omega]; exact hp⟩))
  have e2 : iv_vC 46 h' = iv_vC 46 h := iv_vC_congr (fun j k hp => hc _ _ (Or.inr (Or.inl ⟨by omega, by have := hpwlt j k hp; omega, by rw [show 46 + j - 46 = j by omega]; exact hp⟩)))
  have e3 : iv_vM m' = iv_vM m := iv_vM_congr (fun a k hp => hm _ _ (Or.inl hp))
  have e4 : iv_dec m' = iv_dec m := iv_dec_congr (fun k => hm _ _ (by unfold iv_lm; simp))
  have cp : ∀ a k, 91 ≤ a → a ≤ 158 → h' a k = h a k := fun a k h1 h2 => hc _ _ (Or.inr (Or.inr (Or.inl ⟨h1, h2⟩)))
  obtain ⟨⟨n, l, hw, u, x, hu, hx, p1, p2, p3, p4⟩, hi, ⟨t, r1, r2, r3, r4, r5, r6⟩, ⟨c1, c2, c3⟩⟩ := q
  refine ⟨⟨n, l, by rw [e1, e3]; exact hw, u, x, hu, hx, by rw [cp _ _ (by omega) (by omega)]; exact p1, by rw [hm _ _ (by unfold iv_lm; simp)]; exact p2, by rw [cp _ _ (by omega) (by omega)]; exact p3, ?_⟩, ?_, ⟨t, r1, ?_, ?_, ?_, ?_, ?_⟩, ⟨?_, ?_, ?_⟩⟩
  · intro j hj
    have e5 : (fun k => m' 207 (57 * (u - 1 - j) + k)) = (fun k => m 207 (57 * (u - 1 - j) + k)) := by
      funext k; exact hm _ _ (by unfold iv_lm; simp)
    rw [e3, e5, iv_vR_congr (fun i k h1 h2 => cp _ k (by omega) (by omega))]
    exact p4 j hj
  · unfold iv_IImg
    rw [e2, e4, hc 0 2 (by unfold iv_lc; simp), hm 205 64 (by unfold iv_lm; simp)]
    exact hi
  · rw [hc 159 0 (by unfold iv_lc; simp)]; exact r2
  · rw [hm 205 14 (by unfold iv_lm; simp)]; exact r3
  · rw [hc 159 1 (by unfold iv_lc; simp), hm 205 34 (by unfold iv_lm; simp)]; exact r4
  · rw [hc 159 2 (by unfold iv_lc; simp), hm 205 35 (by unfold iv_lm; simp)]; exact r5
  · intro i hi'
    rw [hc 173 i (by unfold iv_lc; simp), hm 214 i (by unfold iv_lm; simp)]; exact r6 i hi'
  · rw [hm 205 5 (by unfold iv_lm; simp)]; exact c1
  · intro k hk; rw [hc 203 k (by unfold iv_lc; simp)]; exact c2 k hk
  · intro k hk; rw [hm 215 k (by unfold iv_lm; simp)]; exact c3 k hk
