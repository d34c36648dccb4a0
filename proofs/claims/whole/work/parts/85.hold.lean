section MJ85
variable {E : mj_E} {d d' w c : Nat} {hl : Nat → Nat → Int64}
theorem s_entR {r n : Nat} {hi : mj_HI} (hr2 : r = 2 ∨ r = 177) (hn : n ≤ 10) (hd : hi r 0 = nI n) : mj_dc mj_P E (d + 1) 77 [.ref r] (mj_hw w c hi hl) = some (some (.int (nI (mj_st (fun k => decide (hi (r + 5) k = 0 ∧ 0 < hi (r + 3) k)) n))), mj_hw w c hi hl) := by
  rcases hr2 with rfl | rfl
  · exact s_entX hn hd
  · exact s_entI hn hd
/-- the class's hold up to the settling, the reference's sells up to the price -/
theorem s_hold {r n l L len s p k : Nat} {cb cw cc y f t : Nat → Nat} {ops args kd wds : Nat → Int32} {hx : mj_HI} (hE : mj_EK E) (hr : mj_Rm w c r) (hr2 : r = 2 ∨ r = 177) (n10 : n ≤ 10) (l12 : l ≤ 12) (hk : k < l) (h0 : hx r 0 = nI n) (h1 : hx r 1 = nI l) (hb : ∃ b, b ≤ 150 ∧ hx r 6 = nI b) (qC : au_KC n L len s p cb cw cc y f t hx) (ho : hx 18 = ops) (ha : hx 19 = args) (hk' : hx 14 = kd) (hwd : hx 24 = wds) : (∃ hx', mj_dc mj_P E (d + 7) 1 [.ref 188, .ref 1, .ref r, .int (nI k), .int (if r = 2 then 0 else 1)] (mj_hw w c hx hl) = some (none, mj_hw w c hx' hl) ∧ hx' 188 0 = -1 ∧ (∀ a k, a ≠ 188 → hx' a k = hx a k) ∧ ∀ hm, hm 205 6 = nI n → au r n l hx hm → mj_dc mj_P E (d' + 9) 226 [.ref 205, .int (nI k)] (mj_hw w c hm hl) = some (some (.int (-1)), mj_hw w c hm hl)) ∨ (∃ (hx' : mj_HI) (A K T S0 : Nat), (∀ hX, mj_dc mj_P E (d + 6) 4 [.ref 188, .ref 1, .ref r, .int (nI k), .int (nI A), .int (if r = 2 then 0 else 1)] (mj_hw w c hx' hl) = some (none, mj_hw w c hX hl) → mj_dc mj_P E (d + 7) 1 [.ref 188, .ref 1, .ref r, .int (nI k), .int (if r = 2 then 0 else 1)] (mj_hw w c hx hl) = some (none, mj_hw w c hX hl)) ∧ au_X r hx hx' ∧ (∀ j, hx' (r + 10) j = hx (r + 10) j) ∧ hx' 188 0 = nI K ∧ hx' 188 1 = nI T ∧ T ≤ 200 ∧ K < n ∧ A < 2 ^ n ∧ hx' r 0 = nI n ∧ hx' r 1 = nI l ∧ (∃ b, b ≤ 150 ∧ hx' r 6 = nI b) ∧ ∀ hm, au_KM r n l L len s p cb cw cc y f t ops args kd wds hm → au r n l hx hm → ∃ hm', mj_dc mj_P E (d' + 9) 226 [.ref 205, .int (nI k)] (mj_hw w c hm hl) = mj_den mj_P E (d' + 8) 226 17 [.ref 205, .int (nI k), .int (nI S0), .float 0, .float 0] [.int (nI K)] (mj_hw w c hm' hl) ∧ au_M hm hm' ∧ au r n l hx' hm' ∧ hm' 205 46 = nI A ∧ hm' 205 44 = nI T) := by
  have h2n : (2 : Nat) ^ n ≤ 2 ^ 10 := Nat.pow_le_pow_right (by omega) n10
  obtain ⟨H, hH⟩ : ∃ H : mj_HI, H = mj_u (mj_u (mj_u hx 188 0 (-1)) 188 1 0) 188 2 0 := ⟨_, rfl⟩
  have Hf : ∀ a k, a ≠ 188 → H a k = hx a k := fun a k z => by rw [hH]; simp (disch := omega) only [mj_u_pt]
  have H0 : H 188 0 = -1 := by rw [hH]; simp (disch := omega) only [mj_u_pt, mj_u_eq]
  have H1 : H 188 1 = nI 0 := by rw [hH]; simp (disch := omega) only [mj_u_pt, mj_u_eq]; rfl
  have HX : au_X r hx H := fun a k z1 z2 z3 z4 z5 => Hf a k z4
  have Hr0 : H r 0 = nI n := by rw [Hf _ _ (by omega)]; exact h0
  have Hr1 : H r 1 = nI l := by rw [Hf _ _ (by omega)]; exact h1
  have e77 := s_entR (E := E) (d := d + 5) (w := w) (c := c) (hl := hl) (hi := H) hr2 n10 Hr0
  have hS0lt : mj_st (fun k => decide (H (r + 5) k = 0 ∧ 0 < H (r + 3) k)) n < 2 ^ n := mj_st_lt _ n
  have hins : ∀ hm, hm 205 6 = nI n → au r n l hx hm → mj_dc mj_P E (d' + 8) 169 [.ref 205] (mj_hw w c hm hl) = some (some (.int (nI (mj_st (fun k => decide (H (r + 5) k = 0 ∧ 0 < H (r + 3) k)) n))), mj_hw w c hm hl) := fun hm m6 q => by
    have hh : mj_st (fun k => decide (H (r + 5) k = 0 ∧ 0 < H (r + 3) k)) n = mj_st (fun k => decide (hm 206 (25 + k) = 0 ∧ 0 < hm 206 (15 + k))) n := mj_st_congr n (fun k hk => by
      have := q.1.2.2.1 k (by omega)
      rw [Hf _ _ (by omega), Hf _ _ (by omega), this.2.2.1, this.2.2.2.2.1])
    rw [hh]
    exact s_ins (d := d' + 7) n10 m6
  generalize mj_st (fun k => decide (H (r + 5) k = 0 ∧ 0 < H (r + 3) k)) n = S0 at e77 hS0lt hins
  have ehead : mj_dc mj_P E (d + 7) 1 [.ref 188, .ref 1, .ref r, .int (nI k), .int (if r = 2 then 0 else 1)] (mj_hw w c hx hl) = mj_den mj_P E (d + 6) 1 19 [.ref 188, .ref 1, .ref r, .int (nI k), .int (if r = 2 then 0 else 1), .float 0, .float 0, .float 0, .float 0, .float 0, .float 0] [.int (nI S0)] (mj_hw w c H hl) := by
    rw [xg1 E (d + 6) r, g1_0 hr, ← hH, e77, mj_bi_some]
  by_cases hz : S0 = 0
  · left
    refine ⟨H, ?_, H0, Hf, fun hm m6 q => ?_⟩
    · rw [ehead, hz, g1_19 hr, if_pos (show nI 0 = 0 from rfl), g1_34 hr]
    · rw [e226, q226_0, hins hm m6 q, hz, mj_bi_some, q226_4, if_neg (by decide)]
  · right
    have hzI : ¬ nI S0 = 0 := by rw [mj_ez (by omega)]; exact hz
    have HC : ∀ a k, 13 ≤ a → a ≤ 19 ∨ (22 ≤ a ∧ a ≤ 29) → H a k = hx a k := fun a k z1 z2 => Hf _ _ (by omega)
    obtain ⟨g, S', A', T', u8, u9, i1, i2, i2b, i3, i4, i5, i6, i7, i8, i9, i10, i11, i12, i13⟩ := s_rounds (E := E) (d := d) (d' := d') (w := w) (c := c) (hl := hl) (r := r) (n := n) (l := l) (L := L) (len := len) (s := s) (p := p) (k := k) (S0 := S0) (cb := cb) (cw := cw) (cc := cc) (y := y) (f := f) (t := t) (ops := ops) (args := args) (kd := kd) (wds := wds) hE hr hr2 n10 l12 hk 200 0 S0 0 H (.float 0) (.float 0) (by omega) hS0lt hz (fun _ h => h) (by omega) (fun j h => by rw [Nat.zero_testBit] at h; exact absurd h (by decide)) Hr0 Hr1 (by rw [Hf _ _ (by omega)]; exact hb) H1 (au_KC_c qC HC) (by rw [← ho]; exact funext (fun k => HC _ _ (by omega) (by omega))) (by rw [← ha]; exact funext (fun k => HC _ _ (by omega) (by omega))) (by rw [← hk']; exact funext (fun k => HC _ _ (by omega) (by omega))) (by rw [← hwd]; exact funext (fun k => HC _ _ (by omega) (by omega)))
    obtain ⟨K, k1, k2, k3⟩ := mj_most_some (g (r + 1)) (show n ≤ 12 by omega) i5 i6
    have hAS : A' &&& S0 = A' := by
      refine Nat.eq_of_testBit_eq (fun j => ?_)
      rw [Nat.testBit_and]
      cases hA : A'.testBit j
      · rfl
      · rw [i9 j hA]; rfl
    have hpc := mj_pcb S'
    -- the class
    have e1 : mj_dc mj_P E (d + 7) 1 [.ref 188, .ref 1, .ref r, .int (nI k), .int (if r = 2 then 0 else 1)] (mj_hw w c hx hl) = mj_den mj_P E (d + 6) 1 149 [.ref 188, .ref 1, .ref r, .int (nI k), .int (if r = 2 then 0 else 1), .int (nI S0), .int (nI S'), .int (nI A'), .int (nI T'), u8, u9] [.int (nI (mj_pc 12 S'))] (mj_hw w c (mj_u g 188 0 (nI K)) hl) := by
      have i1' : mj_den mj_P E (d + 6) 1 45 [.ref 188, .ref 1, .ref r, .int (nI k), .int (if r = 2 then 0 else 1), .int (nI S0), .int (nI S0), .int 0, .int 0, .float 0, .float 0] [] (mj_hw w c H hl) = _ := i1
      rw [ehead, g1_19 hr, if_neg hzI, s_ltR (d := d + 5) hr l12 Hr1 hk, mj_bi_some, g1_31 hr, if_pos (by decide), g1_35 hr, i1', g1_134 hr, s_calmR (d := d + 4) hr2 n10 (by omega) i10, mj_bi_some, k3, g1_141 hr, s_bc (d := d + 5) (by omega), mj_bi_some]
    have gX1 : au_X r hx (mj_u g 188 0 (nI K)) := au_X_t HX (au_X_t i2 (fun a k z1 z2 z3 z4 z5 => mj_u_pt (by omega)))
    -- the reference
    have e2 : ∀ hm, au_KM r n l L len s p cb cw cc y f t ops args kd wds hm → au r n l hx hm → ∃ (hm' : mj_HI) (u5 u6 : Value), mj_dc mj_P E (d' + 9) 226 [.ref 205, .int (nI k)] (mj_hw w c hm hl) = mj_bi (mj_den mj_P E (d' + 7) 225 130 [.ref 205, .int (nI k), .int (nI S0), .int (nI S'), .int (nI T'), .int (nI K), u6] [.int (nI (mj_pc 12 S'))] (mj_hw w c hm' hl)) (fun x1 h1 => mj_den mj_P E (d' + 8) 226 17 [.ref 205, .int (nI k), .int (nI S0), .float 0, .float 0] [.int x1] h1) ∧ au_M hm hm' ∧ au r n l (mj_u g 188 0 (nI K)) hm' ∧ hm' 205 46 = nI A' ∧ hm' 205 44 = nI T' := fun hm qM q => by
      have m6 := qM.2.1
      have qH : au r n l H (mj_u hm 205 46 0) := au_c q (fun a k z => Hf _ _ (by omega)) (fun a k z => mj_u_pt (by omega))
      obtain ⟨hm', u5, u6, j1, j2, j3, j4⟩ := i13 (mj_u hm 205 46 0) (.float 0) (.float 0) (au_KM_c qM (fun a k z1 z2 z3 z4 z5 => mj_u_pt (by omega))) qH mj_u_eq
      have j1' : mj_den mj_P E (d' + 7) 225 10 [.ref 205, .int (nI k), .int (nI S0), .int (nI S0), .int 0, .float 0, .float 0] [] (mj_hw w c (mj_u hm 205 46 0) hl) = _ := j1
      have m6' : (mj_u hm' 205 44 (nI T')) 205 6 = nI n := by rw [mj_u_pt (by omega), j2 _ _ (by omega) (by omega) (by omega) (by omega) (by omega), mj_u_pt (by omega)]; exact m6
      have hmost : mj_most (fun k => (mj_u hm' 205 44 (nI T')) 206 (5 + k)) S' n = nI K := by
        rw [← k3]
        exact mj_most_congr n (by omega) (fun k hk => by rw [mj_u_pt (by omega)]; exact ((j3.1.2.2.1 k (by omega)).1).symm)
      refine ⟨mj_u hm' 205 44 (nI T'), u5, u6, ?_, au_M_t (fun a k z1 z2 z3 z4 z5 => mj_u_pt (by omega)) (au_M_t j2 (fun a k z1 z2 z3 z4 z5 => mj_u_pt (by omega))), au_c j3 (fun a k z => mj_u_pt (by omega)) (fun a k z => mj_u_pt (by omega)), by rw [mj_u_pt (by omega)]; exact j4, mj_u_eq⟩
      rw [e226, q226_0, hins hm m6 q, mj_bi_some, q226_4, if_pos hzI, q226_11, xg225 E (d' + 7), g225_0, j1', g225_112, s_bold (d := d' + 5) n10 (by omega) m6', mj_bi_some, hmost, g225_123, s_ones (d := d' + 6) (by omega), mj_bi_some]
    have K0 : ∀ j, (mj_u g 188 0 (nI K)) (r + 10) j = hx (r + 10) j := fun j => by rw [mj_u_pt (by omega), i2b, Hf _ _ (by omega)]
    have K1 : (mj_u g 188 0 (nI K)) 188 0 = nI K := mj_u_eq
    have K2 : (mj_u g 188 0 (nI K)) 188 1 = nI T' := by rw [mj_u_pt (by omega)]; exact i3
    have K3 : (mj_u g 188 0 (nI K)) r 0 = nI n := by rw [mj_u_pt (by omega)]; exact i10
    have K4 : (mj_u g 188 0 (nI K)) r 1 = nI l := by rw [mj_u_pt (by omega)]; exact i11
    have K5 : ∃ b, b ≤ 150 ∧ (mj_u g 188 0 (nI K)) r 6 = nI b := by rw [mj_u_pt (by omega)]; exact i12
    by_cases hp1 : nI (mj_pc 12 S') ≤ 1
    · refine ⟨mj_u g 188 0 (nI K), A', K, T', S0, fun hX e4 => ?_, gX1, K0, K1, K2, i4, k1, i8, K3, K4, K5, fun hm qM q => ?_⟩
      · rw [e1, g1_149 hr, if_pos hp1, g1_168 hr, bx_and, hAS, e4, mj_bv_some, g1_182 hr]
      · obtain ⟨hm', u5, u6, j1, j2, j3, j4, j5⟩ := e2 hm qM q
        exact ⟨hm', by rw [j1, g225_130, if_pos hp1, g225_142, mj_bi_some], j2, j3, j4, j5⟩
    · rcases hr2 with rfl | rfl
      · obtain ⟨g2, n1, n2, n3, n4, n6, _, n5⟩ := s_note (E := E) (d := d + 5) (d' := d' + 6) (w := w) (c := c) (hl := hl) (n := n) (l := l) (hx := mj_u g 188 0 (nI K)) K5 3 (nI K) (nI k)
        refine ⟨g2, A', K, T', S0, fun hX e4 => ?_, au_X_t gX1 n2, fun j => by rw [n3 _ _ (by omega) (by omega)]; exact K0 j, by rw [n3 _ _ (by omega) (by omega)]; exact K1, by rw [n3 _ _ (by omega) (by omega)]; exact K2, i4, k1, i8, by rw [n4 _ (by omega)]; exact K3, by rw [n4 _ (by omega)]; exact K4, n6, fun hm qM q => ?_⟩
        · rw [e1, g1_149 hr, if_neg hp1, if_neg (by decide), K1, n1, mj_bv_some, g1_168 hr, bx_and, hAS, e4, mj_bv_some, g1_182 hr]
        · obtain ⟨hm', u5, u6, j1, j2, j3, j4, j5⟩ := e2 hm qM q
          obtain ⟨f2, c1, c2, c3⟩ := n5 hm' (by rw [j2 _ _ (by omega) (by omega) (by omega) (by omega) (by omega)]; exact qM.1) j3
          exact ⟨f2, by rw [j1, g225_130, if_neg hp1, c1, mj_bv_some, g225_142, mj_bi_some], au_M_t j2 (au_N_M c2), c3, by rw [c2 _ _ (by omega) (by omega)]; exact j4, by rw [c2 _ _ (by omega) (by omega)]; exact j5⟩
      · refine ⟨mj_u g 188 0 (nI K), A', K, T', S0, fun hX e4 => ?_, gX1, K0, K1, K2, i4, k1, i8, K3, K4, K5, fun hm qM q => ?_⟩
        · rw [e1, g1_149 hr, if_neg hp1, if_pos (by decide), g1_168 hr, bx_and, hAS, e4, mj_bv_some, g1_182 hr]
        · obtain ⟨hm', u5, u6, j1, j2, j3, j4, j5⟩ := e2 hm qM q
          have m5 : ¬ hm' 205 5 = 0 := by rw [j2 _ _ (by omega) (by omega) (by omega) (by omega) (by omega), qM.1]; decide
          exact ⟨hm', by rw [j1, g225_130, if_neg hp1, e220, q220_0, if_pos m5, q220_19, mj_bv_some, g225_142, mj_bi_some], j2, j3, j4, j5⟩
end MJ85
