/-! what a call of both is: the cases of the law -/
def mj_wc (w c : Nat) : Prop := 3 ≤ w ∧ w ≤ 6 ∧ c ≤ 4
def mj_EK (E : mj_E) : Prop := ∃ L xs, L ≤ 3072 ∧ E = mj_Ee L xs
/-- class and reference answer alike, and the invariant stays -/
def mj_Cs (mx mm : Nat) (as : List Value) : Prop := ∀ (E : mj_E) (d w c : Nat) (hi : mj_HI) (hl : Nat → Nat → Int64), mj_EK E → mj_wc w c → iv_I hi hi → ∃ (a : Int32) (w' c' : Nat) (hi1 : mj_HI) (hl1 : Nat → Nat → Int64) (hi2 : mj_HI), mj_dc mj_P E (d + 100) mx (.ref 0 :: as) (mj_hw w c hi hl) = some (some (.int a), mj_hw w' c' hi1 hl1) ∧ mj_dc mj_P E (d + 100) mm (.ref 205 :: as) (mj_hw w' c' hi1 hl1) = some (some (.int a), mj_hw w' c' hi2 hl1) ∧ iv_I hi2 hi2 ∧ mj_wc w' c'
/-- the room of the world, cell by cell -/
def iv_X (n l : Nat) (h : mj_HI) (v : Nat → Int32) (M : mj_HI) : Prop :=
  (h 2 0 = nI n ∧ h 2 1 = nI l ∧ h 2 2 = v 3 ∧ h 2 3 = v 0 ∧ h 2 4 = v 4 ∧ h 2 5 = v 1 ∧ h 2 6 = v 2) ∧ (∃ b, b ≤ 150 ∧ v 2 = nI b) ∧ (∀ d, d < 10 → h 3 d = v (5 + d) ∧ h 4 d = M 209 d ∧ h 5 d = v (15 + d) ∧ h 6 d = M 210 d ∧ h 7 d = v (25 + d) ∧ h 8 d = v (35 + d)) ∧ (∀ d, d < n → h 9 d = nI (iv_cnt (fun k => decide (v (45 + k) = nI (d + 1))) l)) ∧ (∀ k, k < 12 → h 10 k = M 211 k ∧ h 11 k = M 212 k) ∧ (∀ k, k < l → h 12 k = v (45 + k) - 1 ∧ ∃ s, s ≤ n ∧ v (45 + k) = nI s) ∧ (∀ d, d < n → ∃ p, p ≤ 9999 ∧ v (15 + d) = nI p)
theorem iv_X_iff {n l : Nat} {h : mj_HI} {v : Nat → Int32} {M : mj_HI} : iv_IR n l (fun j => h (2 + j)) v M ↔ iv_X n l h v M := Iff.rfl
theorem iv_wC1 (h : mj_HI) : (fun j => iv_wC 1 h (1 + j)) = (fun j => h (2 + j)) := by
  funext j k; unfold iv_wC; rw [show 1 + (1 + j) = 2 + j by omega]
theorem iv_JX {n l : Nat} {h m : mj_HI} (q : iv_J n l h m) : iv_X n l h (m 206) m := by
  have := q.1.2.2.2.2.1
  rw [iv_wC1] at this
  exact this
theorem iv_Jn {n l : Nat} {h m : mj_HI} (q : iv_J n l h m) : n ≤ 10 ∧ l ≤ 12 ∧ m 205 6 = nI n ∧ m 205 7 = nI l := ⟨q.1.1, q.1.2.1, q.1.2.2.1, q.1.2.2.2.1⟩
theorem iv_IW_r {n l n' l' : Nat} {C C' M M' : mj_HI} (q : iv_IW n l C M) (hn : n ≤ n') (hl : l ≤ l') (hn' : n' ≤ 10) (hl' : l' ≤ 12) (c : ∀ j k, (12 ≤ j ∧ j ≤ 18) ∨ (21 ≤ j ∧ j ≤ 40) → C' j k = C j k) (m : ∀ a k, (214 ≤ a ∧ a ≤ 222) ∨ (224 ≤ a ∧ a ≤ 226) ∨ a = 230 ∨ (232 ≤ a ∧ a ≤ 235) ∨ a = 237 → M' a k = M a k) (m5 : ∀ k, (k = 36 ∨ k = 38 ∨ k = 40 ∨ k = 48 ∨ k = 51 ∨ k = 54 ∨ k = 58) → M' 205 k = M 205 k) (hN : M' 205 6 = nI n') (hL : M' 205 7 = nI l') (hR : iv_IR n' l' (fun j => C' (1 + j)) (M' 206) M') (hw : iv_IWo l' M') (hB : iv_IBook C' M') : iv_IW n' l' C' M' := by
  obtain ⟨h1, h2, h3, h4, h5, h6, h7, h8, h9, h10, h11, h12, h13, h14, h15, h16⟩ := q
  have c33 : ∀ j k, 33 ≤ j → j ≤ 40 → iv_pw j k = true → C' j k = C j k := fun j k _ _ _ => c j k (by omega)
  exact ⟨hn', hl', hN, hL, hR, hw, iv_ILaw_congr (fun j k _ _ _ => c j k (by omega)) (fun a k _ _ _ => m a k (by omega)) h7, iv_ISay_congr (fun j k _ _ _ => c j k (by omega)) (m5 _ (by omega)) (fun k _ => m _ k (by omega)) h8, iv_IPin_congr hn (fun j k _ _ _ => c j k (by omega)) (m5 _ (by omega)) (fun k _ => m _ k (by omega)) h9, iv_ISale_congr hn hl (fun j k _ _ _ => c j k (by omega)) (m5 _ (by omega)) (fun k _ => m _ k (by omega)) h10, iv_ISeen_congr c33 (m5 _ (by omega)) (fun k _ => m _ k (by omega)) h11, iv_IClaim_congr c33 (m5 _ (by omega)) (fun k _ => m _ k (by omega)) h12, iv_IPut_congr c33 (fun k _ => m _ k (by omega)) h13, iv_IBring_congr c33 (m5 _ (by omega)) (fun k _ => m _ k (by omega)) (fun k _ => m _ k (by omega)) h14, iv_IBrea_congr c33 (m5 _ (by omega)) (fun k _ => m _ k (by omega)) h15, hB⟩
theorem iv_G2_congr {h h' m m' : mj_HI} (q : iv_G2 h m) (c0 : h' 0 2 = h 0 2) (c : ∀ a k, 46 ≤ a → a ≤ 90 → h' a k = h a k) (m0 : m' 205 64 = m 205 64) (mm : ∀ k, m' 241 k = m 241 k) : iv_G2 h' m' := by
  rcases q with q | ⟨a, b, n, l, q⟩
  · exact Or.inl ⟨by rw [c0]; exact q.1, by rw [m0]; exact q.2⟩
  · refine Or.inr ⟨by rw [c0]; exact a, by rw [m0]; exact b, n, l, iv_IW_congr (fun j k hp => ?_) (fun a k _ => by unfold iv_dec; rw [mm]) q⟩
    have : j ≤ 44 := by
      have h2 := (of_decide_eq_true hp).1
      by_cases h3 : j ≤ 44
      · exact h3
      · exfalso
        have : iv_wl j = 0 := by unfold iv_wl; split <;> first | omega | rfl
        omega
    exact c (46 + j) k (by omega) (by omega)
theorem iv_IRead_congr {h h' m m' : mj_HI} (q : iv_IRead h m) (c : ∀ a k, a = 159 ∨ a = 173 → h' a k = h a k) (m5 : ∀ k, k = 14 ∨ k = 34 ∨ k = 35 → m' 205 k = m 205 k) (mm : ∀ k, m' 214 k = m 214 k) : iv_IRead h' m' := by
  obtain ⟨t, r1, r2, r3, r4, r5, r6⟩ := q
  exact ⟨t, r1, by rw [c _ _ (by omega)]; exact r2, by rw [m5 _ (by omega)]; exact r3, by rw [c _ _ (by omega), m5 _ (by omega)]; exact r4, by rw [c _ _ (by omega), m5 _ (by omega)]; exact r5, fun i hi => by rw [mm, c _ _ (by omega)]; exact r6 i hi⟩
theorem iv_IConst_congr {h h' m m' : mj_HI} (q : iv_IConst h m) (c : ∀ k, h' 203 k = h 203 k) (m5 : m' 205 5 = m 205 5) (mm : ∀ k, m' 215 k = m 215 k) : iv_IConst h' m' :=
  ⟨by rw [m5]; exact q.1, fun k hk => by rw [c]; exact q.2.1 k hk, fun k hk => by rw [mm]; exact q.2.2 k hk⟩
/-- a change of the room, the book and the past alone -/
theorem iv_J_room {n l n' l' : Nat} {h h' m m' : mj_HI} (q : iv_J n l h m) (hn : n ≤ n') (hl : l ≤ l') (hn' : n' ≤ 10) (hl' : l' ≤ 12) (c : ∀ a k, (a = 0 ∨ (13 ≤ a ∧ a ≤ 19) ∨ (22 ≤ a ∧ a ≤ 41) ∨ (46 ≤ a ∧ a ≤ 90) ∨ a = 159 ∨ a = 173 ∨ a = 203) → h' a k = h a k) (m1 : ∀ a k, (214 ≤ a ∧ a ≤ 222) ∨ (224 ≤ a ∧ a ≤ 226) ∨ a = 230 ∨ (232 ≤ a ∧ a ≤ 235) ∨ a = 237 ∨ a = 241 → m' a k = m a k) (m5 : ∀ k, (k = 5 ∨ k = 14 ∨ k = 34 ∨ k = 35 ∨ k = 36 ∨ k = 38 ∨ k = 40 ∨ k = 48 ∨ k = 51 ∨ k = 54 ∨ k = 58 ∨ k = 64) → m' 205 k = m 205 k) (hN : m' 205 6 = nI n') (hL : m' 205 7 = nI l') (hR : iv_X n' l' h' (m' 206) m') (hw : iv_IWo l' m') (hB : iv_IBook (iv_wC 1 h') m') (hP : iv_P2 n' l' h' m') : iv_J n' l' h' m' := by
  obtain ⟨q1, q2, q3, q4, q5⟩ := q
  refine ⟨iv_IW_r q1 hn hl hn' hl' (fun j k hj => c _ k (by omega)) (fun a k ha => m1 a k (by omega)) (fun k hk => m5 k (by omega)) hN hL ?_ hw hB, hP, iv_G2_congr q3 (c _ _ (by omega)) (fun a k _ _ => c a k (by omega)) (m5 _ (by omega)) (fun k => m1 _ k (by omega)), iv_IRead_congr q4 (fun a k ha => c a k (by omega)) (fun k hk => m5 k (by omega)) (fun k => m1 _ k (by omega)), iv_IConst_congr q5 (fun k => c _ k (by omega)) (m5 _ (by omega)) (fun k => m1 _ k (by omega))⟩
  rw [iv_wC1]; exact hR
theorem iv_P2_0 {n l : Nat} {h h' m m' : mj_HI} {n' l' : Nat} (q : iv_P2 n l h m) (h0 : h' 91 0 = 0) (m0 : m' 205 3 = 0) (h1 : h' 91 1 = h 91 1) : iv_P2 n' l' h' m' := by
  obtain ⟨u, x, a, b, c, e, f, g⟩ := q
  exact ⟨0, x, by omega, b, h0, m0, by rw [h1]; exact f, fun j hj => absurd hj (by omega)⟩
theorem iv_JB {n l : Nat} {h m : mj_HI} (q : iv_J n l h m) : iv_IBook (iv_wC 1 h) m := q.1.2.2.2.2.2.2.2.2.2.2.2.2.2.2.2
theorem iv_JWo {n l : Nat} {h m : mj_HI} (q : iv_J n l h m) : iv_IWo l m := q.1.2.2.2.2.2.1
theorem iv_B_congr {h h' m m' : mj_HI} (q : iv_IBook (iv_wC 1 h) m) (c : ∀ a k, 42 ≤ a → a ≤ 45 → h' a k = h a k) (mm : ∀ k, m' 213 k = m 213 k) : iv_IBook (iv_wC 1 h') m' :=
  iv_IBook_congr (fun j k h1 h2 _ => c _ k (by omega) (by omega)) (fun k _ => mm k) q
/-- nothing that the invariant looks at has changed -/
theorem iv_J_same {n l : Nat} {h h' m m' : mj_HI} (q : iv_J n l h m) (c : ∀ a k, (a < 20 ∨ (22 ≤ a ∧ a ≤ 158) ∨ a = 159 ∨ a = 173 ∨ a = 203) → h' a k = h a k) (m1 : ∀ a k, (a = 206 ∨ a = 207 ∨ (209 ≤ a ∧ a ≤ 222) ∨ (224 ≤ a ∧ a ≤ 226) ∨ a = 230 ∨ (232 ≤ a ∧ a ≤ 235) ∨ a = 237 ∨ a = 241) → m' a k = m a k) (m5 : ∀ k, (k = 3 ∨ k = 5 ∨ k = 6 ∨ k = 7 ∨ k = 14 ∨ k = 34 ∨ k = 35 ∨ k = 36 ∨ k = 38 ∨ k = 40 ∨ k = 48 ∨ k = 51 ∨ k = 54 ∨ k = 58 ∨ k = 64) → m' 205 k = m 205 k) : iv_I h' m' := by
  refine iv_I_congr (fun a k p => ?_) (fun a k p => ?_) (iv_I_un.mpr ⟨n, l, q⟩)
  · rcases p with p | p | p | p | p | p | p
    · by_cases h2 : a = 20 ∨ a = 21
      · exfalso
        have h3 := p.2.2
        rcases h2 with rfl | rfl
        · simp [iv_pw, iv_wl] at h3
        · simp [iv_pw, iv_wl] at h3
      · exact c a k (by omega)
    all_goals exact c a k (by omega)
  · unfold iv_lm at p
    rcases p with p | p
    · unfold iv_pm at p
      have p := of_decide_eq_true p
      rcases p with p | p
      · refine m1 a k ?_
        unfold iv_ml at p
        split at p <;> omega
      · obtain ⟨rfl, p⟩ := p
        exact m5 k (by omega)
    · by_cases h2 : a = 205
      · subst h2; exact m5 k (by omega)
      · exact m1 a k (by omega)
