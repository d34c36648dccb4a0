/-! the invariant without its masks -/
theorem iv_pwl {j k : Nat} (hj : j ≠ 33) (h : k < iv_wl j) : iv_pw j k = true := decide_eq_true ⟨h, Or.inl hj⟩
theorem iv_pml {a k : Nat} (h : k < iv_ml a) : iv_pm a k = true := decide_eq_true (Or.inl h)
theorem iv_IR_congr {n l : Nat} {R R' : mj_HI} {v v' : Nat → Int32} {M M' : mj_HI} (hn : n ≤ 10) (hl : l ≤ 12) (c : ∀ j k, j < 11 → k < iv_wl (1 + j) → R' j k = R j k) (hv : ∀ k, k < 57 → v' k = v k) (m : ∀ a k, 209 ≤ a → a ≤ 212 → k < iv_ml a → M' a k = M a k) (h : iv_IR n l R v M) : iv_IR n l R' v' M' := by
  obtain ⟨⟨a0, a1, a2, a3, a4, a5, a6⟩, ⟨b, hb, hb2⟩, h3, h4, h5, h6, h7⟩ := h
  refine ⟨⟨?_, ?_, ?_, ?_, ?_, ?_, ?_⟩, ⟨b, hb, by rw [hv 2 (by decide)]; exact hb2⟩, ?_, ?_, ?_, ?_, ?_⟩
  · rw [c 0 0 (by decide) (by decide)]; exact a0
  · rw [c 0 1 (by decide) (by decide)]; exact a1
  · rw [c 0 2 (by decide) (by decide), hv 3 (by decide)]; exact a2
  · rw [c 0 3 (by decide) (by decide), hv 0 (by decide)]; exact a3
  · rw [c 0 4 (by decide) (by decide), hv 4 (by decide)]; exact a4
  · rw [c 0 5 (by decide) (by decide), hv 1 (by decide)]; exact a5
  · rw [c 0 6 (by decide) (by decide), hv 2 (by decide)]; exact a6
  · intro d hd
    rw [c 1 d (by decide) hd, c 2 d (by decide) hd, c 3 d (by decide) hd, c 4 d (by decide) hd, c 5 d (by decide) hd, c 6 d (by decide) hd, hv _ (by omega), hv _ (by omega), hv _ (by omega), hv _ (by omega), m 209 d (by decide) (by decide) hd, m 210 d (by decide) (by decide) hd]
    exact h3 d hd
  · intro d hd
    have hd2 : d < 10 := by omega
    rw [c 7 d (by decide) hd2, h4 d hd]
    congr 1
    have : ∀ i, i ≤ l → iv_cnt (fun k => decide (v (45 + k) = nI (d + 1))) i = iv_cnt (fun k => decide (v' (45 + k) = nI (d + 1))) i := by
      intro i
      induction i with
      | zero => intro _; rfl
      | succ i ih => intro hi; unfold iv_cnt; rw [ih (by omega), hv (45 + i) (by omega)]
    exact this l (Nat.le_refl _)
  · intro k hk
    rw [c 8 k (by decide) hk, c 9 k (by decide) hk, m 211 k (by decide) (by decide) hk, m 212 k (by decide) (by decide) hk]
    exact h5 k hk
  · intro k hk
    have hk2 : k < 12 := by omega
    rw [c 10 k (by decide) hk2, hv _ (by omega)]
    exact h6 k hk
  · intro d hd
    rw [hv _ (by omega)]; exact h7 d hd
theorem iv_cnt_congr {p q : Nat → Bool} (n : Nat) (h : ∀ i, i < n → p i = q i) : iv_cnt p n = iv_cnt q n := by
  induction n with
  | zero => rfl
  | succ n ih => unfold iv_cnt; rw [ih (fun i hi => h i (by omega)), h n (by omega)]
theorem iv_ph_congr {f g : Nat → Int32} (n : Nat) (h : ∀ i, i < n → f i = g i) : iv_ph f n = iv_ph g n := by
  unfold iv_ph; rw [iv_cnt_congr n (fun i hi => by rw [h i hi])]
theorem iv_tys_congr {f g : Nat → Int32} (i : Nat) : ∀ n ts, (∀ k, k < i + n → f k = g k) → iv_tys f i n ts = iv_tys g i n ts := by
  intro n
  induction n with
  | zero => intro ts _; rfl
  | succ n ih => intro ts h; unfold iv_tys; rw [ih ts (fun k hk => h k (by omega)), h (i + n) (by omega)]
theorem iv_cor_congr {op arg : Int32} {mo ma mo' ma' : Nat → Int32} {p : Nat} (h1 : mo' p = mo p) (h2 : ma' p = ma p) (h3 : op = 14 → mo' (p + 1) = mo (p + 1)) (h : iv_cor op arg mo ma p) : iv_cor op arg mo' ma' p := by
  unfold iv_cor at h ⊢
  rw [h1, h2]
  rcases h with h | h | h | h
  · exact Or.inl h
  · exact Or.inr (Or.inl h)
  · exact Or.inr (Or.inr (Or.inl ⟨h.1, h.2.1, h.2.2.1, h.2.2.2.1, by rw [h3 h.1]; exact h.2.2.2.2⟩))
  · exact Or.inr (Or.inr (Or.inr h))
theorem iv_cnt_s (p : Nat → Bool) (n : Nat) : iv_cnt p (n + 1) = iv_cnt p n + (if p n = true then 1 else 0) := rfl
theorem iv_cnt_le (p : Nat → Bool) (i n : Nat) (h : i ≤ n) : iv_cnt p i ≤ iv_cnt p n := by
  induction h with
  | refl => exact Nat.le_refl _
  | step _ ih => rw [iv_cnt_s]; omega
theorem iv_ph_lt {f : Nat → Int32} {i n : Nat} (h : i < n) : iv_ph f i < iv_ph f n := by
  unfold iv_ph; have := iv_cnt_le (fun k => decide (f k = 14)) i n (by omega); omega
theorem iv_ph_le {f : Nat → Int32} {i n : Nat} (h : i ≤ n) : iv_ph f i ≤ iv_ph f n := by
  unfold iv_ph; have := iv_cnt_le (fun k => decide (f k = 14)) i n h; omega
theorem iv_ph_14 {f : Nat → Int32} {i n : Nat} (h : i < n) (e : f i = 14) : iv_ph f i + 1 < iv_ph f n := by
  have h1 : iv_ph f (i + 1) = iv_ph f i + 2 := by
    unfold iv_ph
    show i + 1 + (iv_cnt (fun k => decide (f k = 14)) i + (if decide (f i = 14) = true then 1 else 0)) = _
    rw [if_pos (decide_eq_true e)]; omega
  have h2 := iv_ph_le (f := f) (show i + 1 ≤ n by omega)
  omega
theorem iv_ILaw_congr {C C' M M' : mj_HI} (c : ∀ j k, 12 ≤ j → j ≤ 18 → iv_pw j k = true → C' j k = C j k) (m : ∀ a k, 216 ≤ a → a ≤ 222 → k < iv_ml a → M' a k = M a k) (h : iv_ILaw C M) : iv_ILaw C' M' := by
  obtain ⟨L, len, h1, h2, h3, h4, h5, h6, h7⟩ := h
  have cc : ∀ k, k < 400 → C' 17 k = C 17 k := fun k hk => c 17 k (by decide) (by decide) (iv_pwl (by decide) hk)
  have cp : ∀ i, i ≤ len → iv_ph (C' 17) i = iv_ph (C 17) i := fun i hi => iv_ph_congr i (fun k hk => cc k (by omega))
  refine ⟨L, len, h1, h2, by rw [cp len (Nat.le_refl _)]; exact h3, by rw [c 12 0 (by decide) (by decide) rfl]; exact h4, by rw [m 216 0 (by decide) (by decide) (by decide)]; exact h5, ?_, ?_⟩
  · intro i hi
    rw [cp i (by omega), cc i (by omega), c 18 i (by decide) (by decide) (iv_pwl (by decide) (show i < 400 by omega))]
    have hl := iv_ph_lt (f := C 17) hi
    refine iv_cor_congr (m 221 _ (by decide) (by decide) (show _ < 400 by omega)) (m 222 _ (by decide) (by decide) (show _ < 400 by omega)) (fun e => ?_) (h6 i hi)
    have hl2 := iv_ph_14 (f := C 17) hi e
    exact m 221 _ (by decide) (by decide) (show _ < 400 by omega)
  · intro i hi
    have hi2 : i < 16 := by omega
    obtain ⟨k1, cb, cw, cx, g1, g2, g3, g4, g5, g6, g7, g8, g9, g10, g11⟩ := h7 i hi
    rw [c 13 i (by decide) (by decide) (iv_pwl (by decide) hi2), m 217 i (by decide) (by decide) hi2]
    refine ⟨k1, cb, cw, cx, g1, g2, g3, ?_, ?_, ?_, ?_, ?_, ?_, ?_, ?_⟩
    · rw [c 14 i (by decide) (by decide) (iv_pwl (by decide) hi2)]; exact g4
    · rw [c 15 i (by decide) (by decide) (iv_pwl (by decide) hi2)]; exact g5
    · rw [c 16 i (by decide) (by decide) (iv_pwl (by decide) hi2)]; exact g6
    · rw [m 218 i (by decide) (by decide) hi2, cp cb (by omega)]; exact g7
    · rw [m 219 i (by decide) (by decide) hi2, cp cw (by omega)]; exact g8
    · rw [m 220 i (by decide) (by decide) hi2, cp cx (by omega)]; exact g9
    · rw [iv_tys_congr cb (cw - cb) [] (fun k hk => cc k (by omega))]; exact g10
    · rw [iv_tys_congr cw (cx - cw) [] (fun k hk => cc k (by omega))]; exact g11
theorem iv_ISay_congr {C C' M M' : mj_HI} (c : ∀ j k, 21 ≤ j → j ≤ 24 → iv_pw j k = true → C' j k = C j k) (m1 : M' 205 36 = M 205 36) (m : ∀ k, k < 32 → M' 224 k = M 224 k) (h : iv_ISay C M) : iv_ISay C' M' := by
  obtain ⟨s, h1, h2, h3, h4⟩ := h
  refine ⟨s, h1, by rw [c 21 0 (by decide) (by decide) rfl]; exact h2, by rw [m1]; exact h3, fun i hi => ?_⟩
  have hi2 : i < 16 := by omega
  rw [c 23 i (by decide) (by decide) (iv_pwl (by decide) hi2), c 24 i (by decide) (by decide) (iv_pwl (by decide) hi2), m _ (by omega), m _ (by omega)]
  exact h4 i hi
theorem iv_IPin_congr {n n' : Nat} {C C' M M' : mj_HI} (hn : n ≤ n') (c : ∀ j k, 25 ≤ j → j ≤ 28 → iv_pw j k = true → C' j k = C j k) (m1 : M' 205 38 = M 205 38) (m : ∀ k, k < 10 → M' 225 k = M 225 k) (h : iv_IPin n C M) : iv_IPin n' C' M' := by
  obtain ⟨p, f, t, h1, h2, h3, h4, h5⟩ := h
  refine ⟨p, f, t, h1, by rw [c 25 0 (by decide) (by decide) rfl]; exact h2, by rw [m1]; exact h3, fun i hi => ?_, fun d hd => by rw [m d hd]; exact h5 d hd⟩
  have hi2 : i < 16 := by omega
  rw [c 27 i (by decide) (by decide) (iv_pwl (by decide) hi2), c 28 i (by decide) (by decide) (iv_pwl (by decide) hi2)]
  obtain ⟨g1, g2, g3, g4, g5⟩ := h4 i hi
  exact ⟨g1, g2, by omega, by omega, g5⟩
theorem iv_ISale_congr {n n' l l' : Nat} {C C' M M' : mj_HI} (hn : n ≤ n') (hl : l ≤ l') (c : ∀ j k, 29 ≤ j → j ≤ 32 → iv_pw j k = true → C' j k = C j k) (m1 : M' 205 40 = M 205 40) (m : ∀ k, k < 48 → M' 226 k = M 226 k) (h : iv_ISale n l C M) : iv_ISale n' l' C' M' := by
  obtain ⟨s, h1, h2, h3, h4⟩ := h
  refine ⟨s, h1, by rw [c 29 0 (by decide) (by decide) rfl]; exact h2, by rw [m1]; exact h3, fun i hi => ?_⟩
  have hi2 : i < 16 := by omega
  rw [c 30 i (by decide) (by decide) (iv_pwl (by decide) hi2), c 31 i (by decide) (by decide) (iv_pwl (by decide) hi2), c 32 i (by decide) (by decide) (iv_pwl (by decide) hi2), m _ (by omega), m _ (by omega), m _ (by omega)]
  obtain ⟨x, y, g1, g2, g3, g4, g5, g6, g7⟩ := h4 i hi
  refine ⟨x, y, g1, g2, g3, g4, g5, ?_, g7⟩
  by_cases hx : x = 0
  · rw [if_pos hx] at g6 ⊢; omega
  · rw [if_neg hx] at g6 ⊢; omega
theorem iv_ISeen_congr {C C' M M' : mj_HI} (c : ∀ j k, 33 ≤ j → j ≤ 40 → iv_pw j k = true → C' j k = C j k) (m1 : M' 205 48 = M 205 48) (m : ∀ k, k < 100 → M' 230 k = M 230 k) (h : iv_ISeen C M) : iv_ISeen C' M' := by
  obtain ⟨s, a, b, h1, h2, h3, h4, h5⟩ := h
  refine ⟨s, a, b, h1, by rw [c 33 0 (by decide) (by decide) rfl]; exact h2, by rw [m1]; exact h3, fun i hi => ?_, fun x y hx hy => by rw [m _ (by omega)]; exact h5 x y hx hy⟩
  have hi2 : i < 16 := by omega
  rw [c 34 i (by decide) (by decide) (iv_pwl (by decide) hi2), c 35 i (by decide) (by decide) (iv_pwl (by decide) hi2)]
  exact h4 i hi
theorem iv_IClaim_congr {C C' M M' : mj_HI} (c : ∀ j k, 33 ≤ j → j ≤ 40 → iv_pw j k = true → C' j k = C j k) (m1 : M' 205 51 = M 205 51) (m : ∀ k, k < 6 → M' 232 k = M 232 k) (h : iv_IClaim C M) : iv_IClaim C' M' := by
  obtain ⟨s, h1, h2, h3, h4⟩ := h
  refine ⟨s, h1, by rw [c 33 3 (by decide) (by decide) rfl]; exact h2, by rw [m1]; exact h3, fun i hi => ?_⟩
  have hi2 : i < 6 := by omega
  rw [c 36 i (by decide) (by decide) (iv_pwl (by decide) hi2), m i hi2]
  exact h4 i hi
theorem iv_IPut_congr {C C' M M' : mj_HI} (c : ∀ j k, 33 ≤ j → j ≤ 40 → iv_pw j k = true → C' j k = C j k) (m : ∀ k, k < 8 → M' 233 k = M 233 k) (h : iv_IPut C M) : iv_IPut C' M' := by
  intro i hi
  rw [c 37 i (by decide) (by decide) (iv_pwl (by decide) hi), m i hi]
  exact h i hi
theorem iv_IBring_congr {C C' M M' : mj_HI} (c : ∀ j k, 33 ≤ j → j ≤ 40 → iv_pw j k = true → C' j k = C j k) (m1 : M' 205 54 = M 205 54) (m : ∀ k, k < 7 → M' 234 k = M 234 k) (m2 : ∀ k, k < 7 → M' 235 k = M 235 k) (h : iv_IBring C M) : iv_IBring C' M' := by
  obtain ⟨s, h1, h2, h3, h4⟩ := h
  refine ⟨s, h1, by rw [c 33 6 (by decide) (by decide) rfl]; exact h2, by rw [m1]; exact h3, fun i hi => ?_⟩
  have hi2 : i < 7 := by omega
  rw [c 38 i (by decide) (by decide) (iv_pwl (by decide) hi2), c 39 i (by decide) (by decide) (iv_pwl (by decide) hi2), m i hi2, m2 i hi2]
  exact h4 i hi
theorem iv_IBrea_congr {C C' M M' : mj_HI} (c : ∀ j k, 33 ≤ j → j ≤ 40 → iv_pw j k = true → C' j k = C j k) (m1 : M' 205 58 = M 205 58) (m : ∀ k, k < 12 → M' 237 k = M 237 k) (h : iv_IBrea C M) : iv_IBrea C' M' := by
  obtain ⟨s, h1, h2, h3, h4⟩ := h
  refine ⟨s, h1, by rw [c 33 9 (by decide) (by decide) rfl]; exact h2, by rw [m1]; exact h3, fun i hi => ?_⟩
  have hi2 : i < 12 := by omega
  rw [c 40 i (by decide) (by decide) (iv_pwl (by decide) hi2), m i hi2]
  exact h4 i hi
theorem iv_IBook_congr {C C' M M' : mj_HI} (c : ∀ j k, 41 ≤ j → j ≤ 44 → iv_pw j k = true → C' j k = C j k) (m : ∀ k, k < 600 → M' 213 k = M 213 k) (h : iv_IBook C M) : iv_IBook C' M' := by
  intro i hi
  rw [c 41 i (by decide) (by decide) (iv_pwl (by decide) hi), c 42 i (by decide) (by decide) (iv_pwl (by decide) hi), c 43 i (by decide) (by decide) (iv_pwl (by decide) hi), c 44 i (by decide) (by decide) (iv_pwl (by decide) hi), m _ (by omega), m _ (by omega), m _ (by omega), m _ (by omega)]
  exact h i hi
theorem iv_IW_congr {n l : Nat} {C C' M M' : mj_HI} (c : ∀ j k, iv_pw j k = true → C' j k = C j k) (m : ∀ a k, iv_pm a k = true → M' a k = M a k) (h : iv_IW n l C M) : iv_IW n l C' M' := by
  obtain ⟨h1, h2, h3, h4, h5, h6, h7, h8, h9, h10, h11, h12, h13, h14, h15, h16⟩ := h
  have c33 : ∀ j k, 33 ≤ j → j ≤ 40 → iv_pw j k = true → C' j k = C j k := fun j k _ _ h => c j k h
  refine ⟨h1, h2, by rw [m _ _ rfl]; exact h3, by rw [m _ _ rfl]; exact h4, ?_, ?_, iv_ILaw_congr (fun j k _ _ h => c j k h) (fun a k _ _ h => m a k (iv_pml h)) h7, iv_ISay_congr (fun j k _ _ h => c j k h) (m _ _ rfl) (fun k h => m _ k (iv_pml h)) h8, iv_IPin_congr (Nat.le_refl _) (fun j k _ _ h => c j k h) (m _ _ rfl) (fun k h => m _ k (iv_pml h)) h9, iv_ISale_congr (Nat.le_refl _) (Nat.le_refl _) (fun j k _ _ h => c j k h) (m _ _ rfl) (fun k h => m _ k (iv_pml h)) h10, iv_ISeen_congr c33 (m _ _ rfl) (fun k h => m _ k (iv_pml h)) h11, iv_IClaim_congr c33 (m _ _ rfl) (fun k h => m _ k (iv_pml h)) h12, iv_IPut_congr c33 (fun k h => m _ k (iv_pml h)) h13, iv_IBring_congr c33 (m _ _ rfl) (fun k h => m _ k (iv_pml h)) (fun k h => m _ k (iv_pml h)) h14, iv_IBrea_congr c33 (m _ _ rfl) (fun k h => m _ k (iv_pml h)) h15, iv_IBook_congr (fun j k _ _ h => c j k h) (fun k h => m _ k (iv_pml h)) h16⟩
  · refine iv_IR_congr h1 h2 (fun j k hj hk => c (1 + j) k (iv_pwl (by omega) hk)) (fun k hk => m 206 k (iv_pml hk)) (fun a k _ _ h => m a k (iv_pml h)) h5
  · intro k hk; rw [m 212 k (iv_pml (show k < 12 by omega))]; exact h6 k hk
/-- the world as it lies there -/
def iv_wC (b : Nat) (h : mj_HI) : mj_HI := fun j k => h (b + j) k
theorem iv_mC {b j k : Nat} {h : mj_HI} (q : iv_pw j k = true) : iv_vC b h j k = h (b + j) k := if_pos q
theorem iv_mM {a k : Nat} {m : mj_HI} (q : iv_pm a k = true) : iv_vM m a k = m a k := if_pos q
theorem iv_IW_un {n l b : Nat} {h m : mj_HI} : iv_IW n l (iv_vC b h) (iv_vM m) ↔ iv_IW n l (iv_wC b h) m :=
  ⟨fun q => iv_IW_congr (fun j k p => (iv_mC p).symm) (fun a k p => (iv_mM p).symm) q, fun q => iv_IW_congr (fun j k p => iv_mC p) (fun a k p => iv_mM p) q⟩
/-- the past, unmasked -/
def iv_P2 (n l : Nat) (h m : mj_HI) : Prop := ∃ u x, u ≤ 6 ∧ x < 6 ∧ h 91 0 = nI u ∧ m 205 3 = nI u ∧ h 91 1 = nI x ∧ ∀ j, j < u → iv_IR n l (fun i => h (93 + 11 * ((x + 5 - j) % 6) + i)) (fun k => m 207 (57 * (u - 1 - j) + k)) m
theorem iv_P_un {n l : Nat} {h m : mj_HI} (hn : n ≤ 10) (hl : l ≤ 12) : iv_IPast n l h m ↔ iv_P2 n l h m := by
  constructor
  · rintro ⟨u, x, a, b, c, e, f, g⟩
    refine ⟨u, x, a, b, c, e, f, fun j hj => iv_IR_congr hn hl (fun i k hi hk => ?_) (fun _ _ => rfl) (fun a k h1 h2 h3 => (iv_mM (iv_pml h3)).symm) (g j hj)⟩
    exact (if_pos ⟨hi, hk⟩).symm
  · rintro ⟨u, x, a, b, c, e, f, g⟩
    refine ⟨u, x, a, b, c, e, f, fun j hj => iv_IR_congr hn hl (fun i k hi hk => ?_) (fun _ _ => rfl) (fun a k h1 h2 h3 => iv_mM (iv_pml h3)) (g j hj)⟩
    exact if_pos ⟨hi, hk⟩
def iv_G2 (h m : mj_HI) : Prop := (h 0 2 = 0 ∧ m 205 64 = 0) ∨ (h 0 2 = 1 ∧ m 205 64 = 1 ∧ ∃ n l, iv_IW n l (iv_wC 46 h) (iv_dec m))
theorem iv_G_un {h m : mj_HI} : iv_IImg h m ↔ iv_G2 h m := by
  constructor
  · rintro (q | ⟨a, b, n, l, q⟩)
    · exact Or.inl q
    · exact Or.inr ⟨a, b, n, l, iv_IW_un.mp q⟩
  · rintro (q | ⟨a, b, n, l, q⟩)
    · exact Or.inl q
    · exact Or.inr ⟨a, b, n, l, iv_IW_un.mpr q⟩
/-- all, unmasked -/
def iv_J (n l : Nat) (h m : mj_HI) : Prop := iv_IW n l (iv_wC 1 h) m ∧ iv_P2 n l h m ∧ iv_G2 h m ∧ iv_IRead h m ∧ iv_IConst h m
theorem iv_I_un {h m : mj_HI} : iv_I h m ↔ ∃ n l, iv_J n l h m := by
  constructor
  · rintro ⟨⟨n, l, a, b⟩, c, e, f⟩
    have a2 := iv_IW_un.mp a
    exact ⟨n, l, a2, (iv_P_un a2.1 a2.2.1).mp b, iv_G_un.mp c, e, f⟩
  · rintro ⟨n, l, a, b, c, e, f⟩
    exact ⟨⟨n, l, iv_IW_un.mpr a, (iv_P_un a.1 a.2.1).mpr b⟩, iv_G_un.mpr c, e, f⟩
/-- the two halves lie apart: what holds of the two is what they hold -/
theorem iv_two {n l : Nat} {h m h' m' : mj_HI} (hc : ∀ a k, a < 205 → h' a k = h a k) (hm : ∀ a k, 205 ≤ a → a ≤ 241 → m' a k = m a k) (q : iv_J n l h m) : iv_I h' m' := by
  refine iv_I_congr (fun a k p => hc a k ?_) (fun a k p => ?_) (iv_I_un.mpr ⟨n, l, q⟩)
  · unfold iv_lc at p; omega
  · have : 205 ≤ a ∧ a ≤ 241 := by
      unfold iv_lm at p
      rcases p with p | p | p | p | p | p
      · unfold iv_pm at p
        have p := of_decide_eq_true p
        rcases p with p | p
        · unfold iv_ml at p
          split at p <;> omega
        · omega
      all_goals omega
    exact hm a k this.1 this.2
