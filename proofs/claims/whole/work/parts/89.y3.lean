theorem wc_tzl : ∀ s, s < 4096 → s ≠ 0 → ∀ i, i < 12 → i < mj_tz s → s.testBit i = false := mj_4096 (by decide +kernel)
theorem bmx_0 {g : Nat → Nat} {s : Nat} : ∀ k, (∀ i, i < k → s.testBit i = false) → bmx g s k = 0 := by
  intro k
  induction k with
  | zero => intro _; rfl
  | succ k ih => intro h; rw [bmx_f (by rw [h k (by omega)]; decide)]; exact ih (fun i hi => h i (by omega))
theorem lN_s4 (A B y x : Int64) : (A - B) + (y - x) = (A + y) - (B + x) := by grind
theorem b_max {a b : Nat} (ha : a < 2147483648) (hb : b < 2147483648) : (if nI a < nI b then nI b else nI a) = nI (max a b) := by
  by_cases h : a < b
  · rw [if_pos (by rw [mj_nIlt ha hb]; exact h), show max a b = b by omega]
  · rw [if_neg (by rw [mj_nIlt ha hb]; exact h), show max a b = a by omega]
section MJ89y3
variable {E : mj_E} {d w c : Nat} {hi : mj_HI} {hl : Nat → Nat → Int64}
set_option maxRecDepth 100000 in
theorem h95_0 (v2 : Int32) : mj_den mj_P E d 95 0 [.ref 189, .ref 41, .int v2, .float 0, .float 0, .float 0, .float 0, .float 0, .float 0, .float 0] [] (mj_hw w c hi hl) = mj_br (mj_dc mj_P E d 85 [.ref 189] (mj_hw w c hi hl)) (fun x1 h1 => mj_den mj_P E d 95 4 [.ref 189, .ref 41, .int v2, .float 0, .float 0, .float 0, .float 0, .float 0, .float 0, .float 0] [.ref x1] h1) := by
  rw [mj_den_eq, f95_0]
  exact zt_aload_n rfl rfl (zt_call0_3 rfl (mjkd189 _ _ _ _) (Nat.le_of_ble_eq_true rfl) rfl rfl)
set_option maxRecDepth 100000 in
theorem h95_4 (S : Nat) (v2 : Int32) : mj_den mj_P E d 95 4 [.ref 189, .ref 41, .int v2, .float 0, .float 0, .float 0, .float 0, .float 0, .float 0, .float 0] [.ref S] (mj_hw w c hi hl) = mj_br (mj_dc mj_P E d 86 [.ref 189] (mj_hw w c hi hl)) (fun x1 h1 => mj_den mj_P E d 95 9 [.ref 189, .ref 41, .int v2, .ref S, .float 0, .float 0, .float 0, .float 0, .float 0, .float 0] [.ref x1] h1) := by
  rw [mj_den_eq, f95_4]
  exact zt_astore_n (Nat.le_of_ble_eq_true rfl) rfl rfl (zt_aload_n rfl rfl (zt_call0_3 rfl (mjkd189 _ _ _ _) (Nat.le_of_ble_eq_true rfl) rfl rfl))
theorem s_swapX {x : Nat → Nat} {n : Nat} (hc : c ≤ 4) (n12 : n ≤ 12) (hx : ∀ i, i < n → hi 41 i = nI (x i) ∧ x i ≤ 99) : ∃ (c' : Nat) (g : mj_HI) (hl' : Nat → Nat → Int64) (y e f : Nat → Nat), mj_dc mj_P E (d + 3) 95 [.ref 189, .ref 41, .int (nI n)] (mj_hw w c hi hl) = some (some (.int (nI n - nI (f (2 ^ n - 1)))), mj_hw w c' g hl') ∧ c' ≤ 4 ∧ (∀ k, k < n → y k ≤ 99) ∧ ws_S (fun k => nI (y k)) (fun i => nI (x i)) n ∧ (∀ i, i < n → e (y i) < n ∧ y (e (y i)) = y i) ∧ (∀ i, i < n → e (x i) < n ∧ y (e (x i)) = x i) ∧ f 0 = 0 ∧ (∀ s, 0 < s → s < 4096 → f s = bmx (fun i => f (s ^^^ 2 ^ i)) s n + (if decide (wp_cs (fun i => 32 ^ e (y i)) s n = wp_cs (fun i => 32 ^ e (x i)) s n) = true then 1 else 0)) ∧ ∀ a k, a < 242 → a ≠ 193 → g a k = hi a k := by
  obtain ⟨S, c1, h1, l1, eS, c14, S242, hS, f1, f1l⟩ := s_sums (E := E) (d := d + 1) (w := w) (hi := hi) (hl := hl) hc
  obtain ⟨P, c2, h2, l2, eP, c24, P242, hP, f2, f2l, keepS⟩ := s_parts (E := E) (d := d + 1) (w := w) (hi := h1) (hl := l1) c14
  have hS2 := keepS S hS
  obtain ⟨g3, l3, y, e, eL, y99, hWS, hey, hex, h192, g3f, l3f⟩ := s_learnM (E := E) (d := d) (w := w) (c := c2) (hi := h2) (hl := l2) n12 (fun i hi' => by rw [f2 _ _ (by omega), f1 _ _ (by omega)]; exact hx i hi')
  obtain ⟨f, f0, hf⟩ := b_f (fun s => decide (wp_cs (fun i => 32 ^ e (y i)) s n = wp_cs (fun i => 32 ^ e (x i)) s n)) n
  have hfle := b_le f0 hf
  have h4096 : 2 ^ n ≤ 4096 := Nat.pow_le_pow_right (n := 2) (by omega) n12
  have hpos : 1 ≤ 2 ^ n := Nat.two_pow_pos n
  obtain ⟨Y, hY⟩ : ∃ Y : Nat → Nat, Y = fun i => 32 ^ e (y i) := ⟨_, rfl⟩
  obtain ⟨X, hX⟩ : ∃ X : Nat → Nat, X = fun i => 32 ^ e (x i) := ⟨_, rfl⟩
  have h192' : ∀ i, i < n → l3 192 i = lN (Y i) - lN (X i) := fun i hi' => by rw [hY, hX]; exact h192 i hi'
  have hbd : ∀ s, wp_cs Y s n < 2 ^ 60 ∧ wp_cs X s n < 2 ^ 60 := fun s => by
    have hp : ∀ j, j < n → (32 : Nat) ^ j ≤ 32 ^ 11 := fun j hj => Nat.pow_le_pow_right (by omega) (by omega)
    have b1 := wy_cs_bd (y := Y) (s := s) (b := 32 ^ 11) n (fun i hi' => by rw [hY]; exact hp _ (hey i hi').1)
    have b2 := wy_cs_bd (y := X) (s := s) (b := 32 ^ 11) n (fun i hi' => by rw [hX]; exact hp _ (hex i hi').1)
    have b3 : n * 32 ^ 11 ≤ 12 * 32 ^ 11 := Nat.mul_le_mul_right _ n12
    have b4 : 12 * 32 ^ 11 < (2 : Nat) ^ 60 := by decide
    exact ⟨Nat.lt_of_le_of_lt (Nat.le_trans b1 b3) b4, Nat.lt_of_le_of_lt (Nat.le_trans b2 b3) b4⟩
  rw [← hY, ← hX] at hf
  have key := lp_ex (fun j (q : Value × Value × Value × mj_HI × (Nat → Nat → Int64)) => mj_den mj_P E (d + 2) 95 47 [.ref 189, .ref 41, .int (nI n), .ref S, .ref P, .int (nI n), .int (nI (j + 1)), q.1, q.2.1, q.2.2.1] [] (mj_hw w c2 q.2.2.2.1 q.2.2.2.2)) (fun j q => (∀ s, s ≤ j → q.2.2.2.1 P s = nI (f s)) ∧ (∀ s, s ≤ j → q.2.2.2.2 S s = lN (wp_cs Y s n) - lN (wp_cs X s n)) ∧ (∀ a k, a ≠ P → q.2.2.2.1 a k = g3 a k) ∧ ∀ a k, a ≠ S → q.2.2.2.2 a k = l3 a k) (2 ^ n - 1) (fun j q hj hI => ?_) (.float 0, .float 0, .float 0, mj_u g3 P 0 0, mj_u l3 S 0 (lN 0)) ⟨fun s hs => by
      show mj_u g3 P 0 0 P s = _
      rw [show s = 0 by omega, mj_u_eq, f0]; rfl, fun s hs => by
      show mj_u l3 S 0 (lN 0) S s = _
      rw [show s = 0 by omega, ml_eq, wy_cs0, wy_cs0]; rfl, fun a k ha => by show mj_u g3 P 0 0 a k = _; rw [mj_u_pt (Or.inl ha)], fun a k ha => by show mj_u l3 S 0 (lN 0) a k = _; rw [ml_pt (fun z => ha z.1)]⟩
  · obtain ⟨⟨u7, u8, u9, g, l⟩, ek, k1, k2, k3, k4⟩ := key
    simp only at k1 k2 k3 k4
    refine ⟨c2, g, l, y, e, f, ?_, c24, y99, hWS, hey, hex, f0, (by rw [hY, hX] at hf; exact hf), fun a k ha h193 => ?_⟩
    · have ek' : mj_den mj_P E (d + 2) 95 47 [.ref 189, .ref 41, .int (nI n), .ref S, .ref P, .int (nI n), .int 1, .float 0, .float 0, .float 0] [] (mj_hw w c2 (mj_u g3 P 0 0) (mj_u l3 S 0 (lN 0))) = mj_den mj_P E (d + 2) 95 47 [.ref 189, .ref 41, .int (nI n), .ref S, .ref P, .int (nI n), .int (nI (2 ^ n - 1 + 1)), u7, u8, u9] [] (mj_hw w c2 g l) := ek
      have e12 : Int32.ofNat 12 = nI 12 := rfl
      have m1 : (if nI 12 < nI 12 then nI 12 else nI 12) = nI 12 := by split <;> rfl
      have m2 : ¬ nI 12 < nI n := by rw [mj_nIlt (by omega) (by omega)]; omega
      have m3 : (if (0 : Int32) < nI n then nI n else 0) = nI n := by
        by_cases hz : n = 0
        · subst hz; rfl
        · rw [if_pos (by rw [mj_zlt (by omega)]; omega)]
      have o1 : (1 : Int32) <<< (nI n &&& 31) = nI (2 ^ n) := bx_one n (by omega)
      have o2 : nI (2 ^ n) - 1 = nI (2 ^ n - 1) := mj_nIp (by omega)
      have eS' : mj_dc mj_P E (d + 2) 85 [.ref 189] (mj_hw w c hi hl) = some (some (.ref S), mj_hw w c1 h1 l1) := eS
      have eP' : mj_dc mj_P E (d + 2) 86 [.ref 189] (mj_hw w c1 h1 l1) = some (some (.ref P), mj_hw w c2 h2 l2) := eP
      rw [xg95 E (d + 2) S P, h95_0, eS', mj_br_some, h95_4, eP', mj_br_some, g95_9 hS2 hP, e12, nl_12, s_min2, m1, mj_bi_some, g95_20 hS2 hP, s_min2, if_neg m2, mj_bi_some, g95_23 hS2 hP, s_max2, m3, mj_bi_some, g95_26 hS2 hP, eL, mj_bv_some, g95_35 hS2 hP, if_pos (by decide), if_pos (by decide), vi_c0, wl_of, ek', g95_47 hS2 hP, o1, show 2 ^ n - 1 + 1 = 2 ^ n by omega, if_pos (Int32.le_refl _), g95_186 hS2 hP, o1, o2, if_pos (by rw [mj_nI0 (by omega), mj_nIc (by omega)]; exact ⟨trivial, by omega⟩), mj_nIc (by omega), k1 _ (Nat.le_refl _)]
    · rw [k3 a k (by omega), g3f a k h193, f2 a k ha, f1 a k ha]
  · obtain ⟨u7, u8, u9, g, l⟩ := q
    obtain ⟨k1, k2, k3, k4⟩ := hI
    simp only at k1 k2 k3 k4
    obtain ⟨s, hs⟩ : ∃ s, s = j + 1 := ⟨_, rfl⟩
    have hs1 : 0 < s := by omega
    have hs2 : s < 2 ^ n := by omega
    have hs3 : s < 4096 := by omega
    have hz := wc_tzm n12 hs2 (by omega)
    have hzl := wc_tzl s hs3 (by omega)
    have hlow : s &&& (s - 1) ≤ j := by
      have : s &&& (s - 1) ≤ s - 1 := Nat.and_le_right
      omega
    have o1 : (1 : Int32) <<< (nI n &&& 31) = nI (2 ^ n) := bx_one n (by omega)
    have o2 : nI s &&& (nI s - 1) = nI (s &&& (s - 1)) := by rw [mj_nIp hs1, bx_and]
    have wY := wy_low (y := Y) hs3 (show s ≠ 0 by omega) n n12
    have wX := wy_low (y := X) hs3 (show s ≠ 0 by omega) n n12
    rw [if_pos hz] at wY wX
    have hsum : (l S (s &&& (s - 1))) + (l 192 (mj_tz s)) = lN (wp_cs Y s n) - lN (wp_cs X s n) := by
      rw [k2 _ hlow, k4 192 _ (by omega), h192' _ hz, lN_s4, lN_add, lN_add, wY, wX]
    have e4096 : Int32.ofNat 4096 = nI 4096 := rfl
    have n1 : ¬ nI (2 ^ n) ≤ nI s := by rw [mj_nIle (by omega) (by omega)]; omega
    have n2 : ¬ nI 4096 ≤ nI s := by rw [mj_nIle (by omega) (by omega)]; omega
    have n3 : ¬ nI n ≤ nI (mj_tz s) := by rw [mj_nIle (by omega) (by omega)]; omega
    obtain ⟨G, hG⟩ : ∃ G : Nat → Nat, G = fun i => f (s ^^^ 2 ^ i) := ⟨_, rfl⟩
    have hfs := hf s hs1 hs3
    rw [← hG] at hfs
    have hGb : ∀ i, s.testBit i = true → G i ≤ 4096 ∧ g P (s ^^^ 2 ^ i) = nI (G i) ∧ s ^^^ 2 ^ i < 4096 := fun i hb => by
      have h1 := bx_xlt hb
      have h2 := hfle (s ^^^ 2 ^ i) (by omega)
      rw [hG]
      exact ⟨by show f (s ^^^ 2 ^ i) ≤ 4096; omega, k1 _ (by omega), by omega⟩
    have hbm : ∀ k, bmx G s k ≤ 4096 := fun k => by
      rcases (bmx_ok G s k).2 with h | ⟨i, _, i2, i3⟩
      · omega
      · rw [i3]; exact (hGb i i2).1
    obtain ⟨l', hl'⟩ : ∃ l', l' = mj_u l S s (lN (wp_cs Y s n) - lN (wp_cs X s n)) := ⟨_, rfl⟩
    have lp := lp_from (fun i => mj_den mj_P E (d + 2) 95 117 [.ref 189, .ref 41, .int (nI n), .ref S, .ref P, .int (nI n), .int (nI s), .int (nI (mj_tz s)), .int (nI (bmx G s i)), .int (nI i)] [] (mj_hw w c2 g l')) (mj_tz s) n (by omega) (fun i _ hin => by
      show mj_den mj_P E (d + 2) 95 117 [.ref 189, .ref 41, .int (nI n), .ref S, .ref P, .int (nI n), .int (nI s), .int (nI (mj_tz s)), .int (nI (bmx G s i)), .int (nI i)] [] (mj_hw w c2 g l') = mj_den mj_P E (d + 2) 95 117 [.ref 189, .ref 41, .int (nI n), .ref S, .ref P, .int (nI n), .int (nI s), .int (nI (mj_tz s)), .int (nI (bmx G s (i + 1))), .int (nI (i + 1))] [] (mj_hw w c2 g l')
      have ni : ¬ n ≤ i := by omega
      rw [g95_117 hS2 hP]
      by_cases hb : s.testBit i = true
      · obtain ⟨b1, b2, b3⟩ := hGb i hb
        have b4 := hbm i
        have ex : nI s ^^^ ((1 : Int32) <<< (nI i &&& 31)) = nI (s ^^^ 2 ^ i) := by rw [bx_one i (by omega), bx_xor]
        have emx := b_max (a := bmx G s i) (b := G i) (by omega) (by omega)
        rw [bmx_t hb]
        simp (disch := omega) only [↓reduceIte, mj_bi_some, s_hX, hb, ni, mj_nIle, g95_131 hS2 hP, mj_b, ex, mj_nI0, mj_nIc, b2, b3, true_and, and_self, s_max2, emx, g95_149 hS2 hP, g95_151 hS2 hP, mj_nIs, if_true, if_false, mj_10]
      · rw [bmx_f hb]
        simp (disch := omega) only [↓reduceIte, mj_bi_some, s_hX, hb, ni, mj_nIle, g95_131 hS2 hP, mj_b, g95_151 hS2 hP, mj_nIs, if_false, if_true, Bool.false_eq_true])
    have lp' : mj_den mj_P E (d + 2) 95 117 [.ref 189, .ref 41, .int (nI n), .ref S, .ref P, .int (nI n), .int (nI s), .int (nI (mj_tz s)), .int 0, .int (nI (mj_tz s))] [] (mj_hw w c2 g l') = mj_den mj_P E (d + 2) 95 117 [.ref 189, .ref 41, .int (nI n), .ref S, .ref P, .int (nI n), .int (nI s), .int (nI (mj_tz s)), .int (nI (bmx G s n)), .int (nI n)] [] (mj_hw w c2 g l') := by
      have h0 : bmx G s (mj_tz s) = 0 := bmx_0 _ (fun i hi' => hzl i (by omega) hi')
      have := lp
      simp only [h0] at this
      exact this
    have hcmp : (lg_cmp (l' S s) (Int64.ofNat 0) = 0) ↔ (wp_cs Y s n = wp_cs X s n) := by
      rw [hl', ml_eq, lg_cmp_eq]
      constructor
      · intro h
        have h2 : lN (wp_cs Y s n) = lN (wp_cs X s n) := by
          rw [← Int64.sub_add_cancel (lN (wp_cs Y s n)) (lN (wp_cs X s n)), h]
          exact Int64.zero_add _
        rw [pk_lEQ (Nat.lt_of_lt_of_le (hbd s).1 (by decide)) (Nat.lt_of_lt_of_le (hbd s).2 (by decide))] at h2
        exact h2
      · intro h
        rw [h]
        exact Int64.sub_self _
    refine ⟨(.int (nI (mj_tz s)), .int (nI (bmx G s n)), .int (nI n), mj_u g P s (nI (f s)), l'), ?_, fun t ht => ?_, fun t ht => ?_, fun a k ha => ?_, fun a k ha => ?_⟩
    · show mj_den mj_P E (d + 2) 95 47 [.ref 189, .ref 41, .int (nI n), .ref S, .ref P, .int (nI n), .int (nI (j + 1)), u7, u8, u9] [] (mj_hw w c2 g l) = mj_den mj_P E (d + 2) 95 47 [.ref 189, .ref 41, .int (nI n), .ref S, .ref P, .int (nI n), .int (nI (j + 1 + 1)), .int (nI (mj_tz s)), .int (nI (bmx G s n)), .int (nI n)] [] (mj_hw w c2 (mj_u g P s (nI (f s))) l')
      rw [← hs, g95_47 hS2 hP, o1, if_neg n1, e4096, if_neg n2, if_neg n2, s_tz hs3, mj_bi_some, g95_76 hS2 hP, o2, if_pos (by rw [mj_nI0 (by omega), mj_nIc (by omega)]; exact ⟨trivial, by omega⟩), if_neg n3, if_pos (by rw [mj_nI0 (by omega), mj_nIc (by omega)]; exact ⟨trivial, by omega⟩), mj_nIc (show s &&& (s - 1) < 2147483648 by omega), mj_nIc (show mj_tz s < 2147483648 by omega), g95_108 hS2 hP, if_pos (by rw [mj_nI0 (by omega), mj_nIc (by omega)]; exact ⟨trivial, by omega⟩), mj_nIc (show s < 2147483648 by omega), hsum, ← hl', lp', g95_117 hS2 hP, if_pos (Int32.le_refl _), g95_157 hS2 hP, if_pos (by rw [mj_nI0 (by omega), mj_nIc (by omega)]; exact ⟨trivial, by omega⟩), mj_nIc (show s < 2147483648 by omega)]
      by_cases hB : wp_cs Y s n = wp_cs X s n
      · rw [if_pos (decide_eq_true hB)] at hfs
        rw [if_neg (fun z => z (hcmp.mpr hB)), g95_179 hS2 hP, if_pos (by rw [mj_nI0 (by omega), mj_nIc (by omega)]; exact ⟨trivial, by omega⟩), mj_nIc (show s < 2147483648 by omega), mj_nIs, mj_nIs, hfs]
      · rw [if_neg (fun z => hB (of_decide_eq_true z)), Nat.add_zero] at hfs
        rw [if_pos (fun z => hB (hcmp.mp z)), g95_177 hS2 hP, g95_179 hS2 hP, if_pos (by rw [mj_nI0 (by omega), mj_nIc (by omega)]; exact ⟨trivial, by omega⟩), mj_nIc (show s < 2147483648 by omega), mj_nIs, hfs]
    · show mj_u g P s (nI (f s)) P t = _
      by_cases hts : t = s
      · rw [hts, mj_u_eq]
      · rw [mj_u_pt (by omega)]; exact k1 t (by omega)
    · show l' S t = _
      rw [hl']
      by_cases hts : t = s
      · rw [hts, ml_eq]
      · rw [ml_pt (by omega)]; exact k2 t (by omega)
    · show mj_u g P s (nI (f s)) a k = _
      rw [mj_u_pt (Or.inl ha)]; exact k3 a k ha
    · show l' a k = _
      rw [hl', ml_pt (fun z => ha z.1)]; exact k4 a k ha
end MJ89y3
