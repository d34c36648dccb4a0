section MJ89
variable {E : mj_E} {d d' w c : Nat} {hl : Nat → Nat → Int64}
/-- the calm and the nerve behind the sale, in the class -/
theorem s_set3 {r n l L len K k A T : Nat} {cb cw cc : Nat → Nat} {flag : Int32} {hx : mj_HI} (hE : mj_EK E) (hr : mj_Rm w c r) (hr2 : r = 2 ∨ r = 177) (n10 : n ≤ 10) (l12 : l ≤ 12) (hK : K < n) (hk : k < l) (h0 : hx r 0 = nI n) (h1 : hx r 1 = nI l) (hk0 : hx 188 0 = nI K) (hT : hx 188 1 = nI T) (qL : wl_C hx L len cb cw cc) : ∃ g : mj_HI, (∀ a k, a ≠ 20 → a ≠ 21 → g a k = hx a k) ∧ mj_den mj_P E (d + 5) 4 123 [.ref 188, .ref 1, .ref r, .int (nI k), .int (nI A), .int flag, .float 0, .float 0] [] (mj_hw w c hx hl) = mj_den mj_P E (d + 5) 4 174 [.ref 188, .ref 1, .ref r, .int (nI k), .int (nI A), .int flag, .int (wl_Wx r hx cb cw cc L 2 K k 0 (nI T) 1), .int (nI 0)] [] (mj_hw w c (mj_u g (r + 1) K (if hx (r + 1) K + wl_Wx r hx cb cw cc L 2 K k 0 (nI T) 1 < nI 99 then hx (r + 1) K + wl_Wx r hx cb cw cc L 2 K k 0 (nI T) 1 else nI 99)) hl) := by
  obtain ⟨g, eg, pg⟩ := s_asked (E := E) (d := d + 1) (w := w) (c := c) (hi := hx) (hl := hl) (κ := 2) (v5 := 0) (v6 := nI T) (v7 := 1) hE hr hr2 n10 l12 h0 h1 hK hk (by omega) qL
  have eg2 : mj_dc mj_P E (d + 5) 18 [.ref 13, .ref r, .int 2, .int (nI K), .int (nI k), .int 0, .int (nI T), .int 1] (mj_hw w c hx hl) = some (some (.int (wl_Wx r hx cb cw cc L 2 K k 0 (nI T) 1)), mj_hw w c g hl) := eg
  refine ⟨g, pg, ?_⟩
  have gk : g 188 0 = nI K := by rw [pg _ _ (by omega) (by omega)]; exact hk0
  have gn : g (r + 1) K = hx (r + 1) K := pg _ _ (by omega) (by omega)
  have hin : (0 ≤ nI K ∧ K < 10) := ⟨by rw [mj_nI0 (by omega)]; trivial, by omega⟩
  rw [g4_123 hr, hk0, hT, eg2, mj_bi_some, g4_143 hr, gk, mj_nIc (by omega), if_pos hin, gn, show (99 : Int32) = nI 99 from rfl, s_min2 (d := d + 4), mj_bi_some, g4_170 hr, mj_nIc (by omega), if_pos hin]
  rfl
/-- price, sale, calm and nerve, in the reference -/
theorem s_set4 {r n l L len s p K k S0 T P Z : Nat} {cb cw cc y f t : Nat → Nat} {ops args kd wds : Nat → Int32} {hx hm : mj_HI} (hr2 : r = 2 ∨ r = 177) (n10 : n ≤ 10) (l12 : l ≤ 12) (hK : K < n) (hk : k < l) (qM : au_KM r n l L len s p cb cw cc y f t ops args kd wds hm) (q : au r n l hx hm) (ho : hx 18 = ops) (ha : hx 19 = args) (hk' : hx 14 = kd) (hP : hx (r + 3) K = nI P) (hP2 : P ≤ 9999) (hZ : Z ≤ 9999) (hWZ : wl_Wx r hx cb cw cc L 1 K k 0 (nI T) 1 = nI Z) (h44 : hm 205 44 = nI T) (hu : r = 2 → hm 206 (45 + k) = 0) : ∃ (m1 m2 : mj_HI), au_M hm m1 ∧ (∀ a k, a ≠ 227 → a ≠ 228 → m2 a k = m1 a k) ∧ m1 205 45 = nI (if Z < P then Z else P) ∧ (∀ k, k ≠ 45 → m1 205 k = hm 205 k) ∧ (∀ g, (∀ a k, a ≠ 20 → a ≠ 21 → g a k = hx a k) → au r n l (mj_u (mj_u (mj_u (mj_u (mj_u g 188 2 (nI (if Z < P then Z else P))) (r + 3) K (g (r + 3) K - nI (if Z < P then Z else P))) r 4 (g r 4 + nI (if Z < P then Z else P))) (r + 10) k (nI K)) (r + 7) K (g (r + 7) K + 1)) m1) ∧ mj_den mj_P E (d' + 8) 226 17 [.ref 205, .int (nI k), .int (nI S0), .float 0, .float 0] [.int (nI K)] (mj_hw w c hm hl) = mj_bv (mj_dc mj_P E (d' + 8) 220 [.ref 205, .int 2, .int (nI K), .int (nI k)] (mj_hw w c (mj_u m2 206 (5 + K) (if m1 206 (5 + K) + wl_W m1 ops args kd cb cw cc L 2 K k 0 (nI T) 1 < nI 99 then m1 206 (5 + K) + wl_W m1 ops args kd cb cw cc L 2 K k 0 (nI T) 1 else nI 99)) hl)) (fun h1 => mj_den mj_P E (d' + 8) 226 137 [.ref 205, .int (nI k), .int (nI S0), .int (nI K), .float 0] [] h1) := by
  have hK10 : K < 10 := by omega
  have hP' : hm 206 (15 + K) = nI P := by rw [← (q.1.2.2.1 K hK10).2.2.1]; exact hP
  obtain ⟨f1, e1, p1⟩ := s_priceOf (E := E) (d := d' + 3) (w := w) (c := c) (hi := hm) (hl := hl) (K := K) (k := k) (v3 := nI T) qM.2.2.2.1 hK10 (show k < 12 by omega)
  have hW := au_W (L := L) (κ := 1) (cb := cb) (cw := cw) (cc := cc) (v5 := 0) (v6 := nI T) (v7 := 1) q hK10 (show k < 12 by omega)
  rw [ho, ha, hk', hWZ] at hW
  rw [← hW] at e1
  have e1' : mj_dc mj_P E (d' + 8) 217 [.ref 205, .int (nI K), .int (nI k), .int (nI T)] (mj_hw w c hm hl) = _ := e1
  have hmin : (if Z ≤ P then nI Z else nI P) = nI (if Z < P then Z else P) := by
    by_cases h : Z < P
    · rw [if_pos h, if_pos (by omega)]
    · rw [if_neg h]
      by_cases h2 : Z ≤ P
      · rw [if_pos h2, show Z = P by omega]
      · rw [if_neg h2]
  have hXP : (if Z < P then Z else P) ≤ P := by split <;> omega
  generalize (if Z < P then Z else P) = X at hmin hXP
  have f1P : f1 206 (15 + K) = nI P := by rw [p1 _ _ (by omega) (by omega)]; exact hP'
  have f144 : f1 205 44 = nI T := by rw [p1 _ _ (by omega) (by omega)]; exact h44
  obtain ⟨m1, hm1⟩ : ∃ m1 : mj_HI, m1 = mj_u (mj_u (mj_u (mj_u f1 205 45 (nI X)) 206 (15 + K) (f1 206 (15 + K) - nI X)) 206 4 (f1 206 4 + nI X)) 206 (45 + k) (nI (K + 1)) := ⟨_, rfl⟩
  have m1M : au_M hm m1 := fun a k z1 z2 z3 z4 z5 => by rw [hm1, mj_u_pt (by omega), mj_u_pt (by omega), mj_u_pt (by omega), mj_u_pt (by omega), p1 _ _ z3 z4]
  have qM1 := au_KM_c qM m1M
  have m144 : m1 205 44 = nI T := by rw [hm1]; simp (disch := omega) only [mj_u_pt]; exact f144
  obtain ⟨m2, e2, p2⟩ := s_calmOf (E := E) (d := d' + 3) (w := w) (c := c) (hi := m1) (hl := hl) (K := K) (k := k) (v3 := nI T) qM1.2.2.2.1 hK10 (show k < 12 by omega)
  have e2' : mj_dc mj_P E (d' + 8) 218 [.ref 205, .int (nI K), .int (nI k), .int (nI T)] (mj_hw w c m1 hl) = _ := e2
  refine ⟨m1, m2, m1M, p2, by rw [hm1]; simp (disch := omega) only [mj_u_pt, mj_u_eq], fun k hk => by rw [hm1]; simp (disch := omega) only [mj_u_pt]; exact p1 _ _ (by omega) (by omega), fun g hg => ?_, ?_⟩
  · rw [hm1]
    refine au_sale n10 l12 hK hk hr2 (au_c q (fun a k z => hg _ _ (by omega) (by omega)) (fun a k z => p1 _ _ (by omega) (by omega))) f1P hP2 hXP (fun z => by rw [p1 _ _ (by omega) (by omega)]; exact hu z)
  · have a15 : nI 15 + nI K = nI (15 + K) := mj_nIadd 15 K
    have a45 : nI 45 + nI k = nI (45 + k) := mj_nIadd 45 k
    have a5 : nI 5 + nI K = nI (5 + K) := mj_nIadd 5 K
    rw [q226_17]
    simp (disch := omega) only [↓reduceIte, Bool.false_eq_true, eq_self, mj_10, mj_01, mj_n10, mj_0n1, mj_1n1, mj_n11, mj_bi_some, mj_bv_some, mj_bj_some, mj_br_some, mj_r0, mj_r1, mj_q0, mj_q1, mj_b01, mj_q2, if_true, if_false, mj_it, mj_if, true_and, and_true, false_and, and_false, not_true_eq_false, not_false_eq_true, true_or, or_true, false_or, or_false, mj_nIle, mj_nIlt, mj_nIeq, mj_nI0, mj_nIc, mj_nIadd, mj_nIs, mj_ez, mj_ze, mj_eo, mj_ltz, mj_lez, mj_zlt, mj_olt, mj_lto, mj_leo, mj_ole, mj_nIn, mj_nnI, nl_2, nl_3, nl_4, nl_5, nl_6, nl_7, nl_8, nl_9, nl_10, nl_11, nl_12, nl_13, nl_14, nl_15, nl_16, nl_17, nl_18, nl_19, nl_20, nl_21, nl_22, nl_23, nl_24, nl_25, nl_26, nl_27, nl_28, nl_29, nl_30, nl_32, nl_33, nl_34, nl_35, nl_36, nl_37, nl_38, nl_39, nl_40, nl_41, nl_42, nl_43, nl_44, nl_45, nl_46, nl_47, nl_48, nl_49, nl_50, nl_51, nl_52, nl_53, nl_54, nl_55, nl_56, nl_57, nl_58, nl_59, nl_60, nl_61, nl_62, nl_64, nl_65, nl_66, nl_67, nl_68, nl_69, nl_92, nl_97, nl_99, nl_100, nl_122, nl_127, nl_128, nl_131, nl_132, nl_150, nl_200, nl_255, nl_256, nl_300, nl_342, nl_380, nl_381, nl_400, nl_401, nl_420, nl_500, nl_600, nl_800, nl_999, nl_1000, nl_1023, nl_1024, nl_1200, nl_2048, nl_2100, nl_4096, nl_9999, nl_10000, nl_10240, nl_999999, nl_1000000, if_pos, if_neg, a15, hP', h44, e1', q226_39, s_min155, hmin, q226_42, a45, a5, f144, mj_u_pt]
    rw [← hm1]
    have m15 : f1 206 (5 + K) = m1 206 (5 + K) := by rw [hm1]; simp (disch := omega) only [mj_u_pt]
    have hin : (0 ≤ nI (5 + K) ∧ 5 + K < 57) := ⟨by rw [mj_nI0 (by omega)]; trivial, by omega⟩
    rw [e2', mj_bi_some, q226_125, s_min155 (d' := d' + 7), wl_mn, mj_bi_some, q226_129, mj_nIc (by omega), if_pos hin, m15]
    rfl
end MJ89
