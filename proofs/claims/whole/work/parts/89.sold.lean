section MJ89b
variable {E : mj_E} {d d' w c : Nat} {hl : Nat → Nat → Int64}
theorem s_settle {r n l L len s p K k A T P S0 : Nat} {cb cw cc y f t : Nat → Nat} {ops args kd wds : Nat → Int32} {hx : mj_HI} (hE : mj_EK E) (hr : mj_Rm w c r) (hr2 : r = 2 ∨ r = 177) (n10 : n ≤ 10) (l12 : l ≤ 12) (hK : K < n) (hk : k < l) (hA : A < 2 ^ n) (h0 : hx r 0 = nI n) (h1 : hx r 1 = nI l) (hb : ∃ b, b ≤ 150 ∧ hx r 6 = nI b) (hk0 : hx 188 0 = nI K) (hT : hx 188 1 = nI T) (hP : hx (r + 3) K = nI P) (hP2 : P ≤ 9999) (qL : wl_C hx L len cb cw cc) (ho : hx 18 = ops) (ha : hx 19 = args) (hk' : hx 14 = kd) : ∃ (hX : mj_HI) (X : Nat), mj_dc mj_P E (d + 6) 4 [.ref 188, .ref 1, .ref r, .int (nI k), .int (nI A), .int (if r = 2 then 0 else 1)] (mj_hw w c hx hl) = some (none, mj_hw w c hX hl) ∧ au_X r hx hX ∧ hX 188 0 = nI K ∧ hX 188 1 = nI T ∧ hX 188 2 = nI X ∧ ∀ hm, au_KM r n l L len s p cb cw cc y f t ops args kd wds hm → au r n l hx hm → (r = 2 → hm 206 (45 + k) = 0) → hm 205 46 = nI A → hm 205 44 = nI T → ∃ hm', mj_den mj_P E (d' + 8) 226 17 [.ref 205, .int (nI k), .int (nI S0), .float 0, .float 0] [.int (nI K)] (mj_hw w c hm hl) = some (some (.int (nI K)), mj_hw w c hm' hl) ∧ au_M hm hm' ∧ au r n l hX hm' ∧ hm' 205 44 = nI T ∧ hm' 205 45 = nI X := by
  obtain ⟨g, Z, hZ, hWZ, pg, e1⟩ := s_set1 (E := E) (d := d) (w := w) (c := c) (hl := hl) (A := A) hE hr hr2 n10 l12 hK hk h0 h1 hk0 hT hP hP2 qL
  have e2 := s_set2 (E := E) (d := d) (w := w) (c := c) (hl := hl) (n := n) (K := K) (k := k) (A := A) (X := if Z < P then Z else P) (g := g) hr hr2 n10 hK (by omega) (by rw [pg _ _ (by omega) (by omega)]; exact hk0)
  obtain ⟨c1, hc1⟩ : ∃ c1 : mj_HI, c1 = mj_u (mj_u (mj_u (mj_u (mj_u g 188 2 (nI (if Z < P then Z else P))) (r + 3) K (g (r + 3) K - nI (if Z < P then Z else P))) r 4 (g r 4 + nI (if Z < P then Z else P))) (r + 10) k (nI K)) (r + 7) K (g (r + 7) K + 1) := ⟨_, rfl⟩
  rw [← hc1] at e2
  have c1X : au_X r hx c1 := fun a k z1 z2 z3 z4 z5 => by
    rw [hc1]; simp (disch := omega) only [mj_u_pt]; exact pg _ _ z2 z3
  have c1r : ∀ j, j ≠ 4 → c1 r j = hx r j := fun j hj => by rw [hc1]; simp (disch := omega) only [mj_u_pt]; exact pg _ _ (by omega) (by omega)
  have c1k : ∀ j, j ≠ 2 → c1 188 j = hx 188 j := fun j hj => by rw [hc1]; simp (disch := omega) only [mj_u_pt]; exact pg _ _ (by omega) (by omega)
  have c12 : c1 188 2 = nI (if Z < P then Z else P) := by rw [hc1]; simp (disch := omega) only [mj_u_pt, mj_u_eq]
  have c1C : ∀ a k, 13 ≤ a → a ≤ 19 → c1 a k = hx a k := fun a k z1 z2 => c1X a k (by omega) (by omega) (by omega) (by omega) (by omega)
  -- behind the note: c2 in the class
  obtain ⟨c2, hc2, x2, k2, r2, n2, w2, nr2⟩ : ∃ c2 : mj_HI, mj_dc mj_P E (d + 6) 4 [.ref 188, .ref 1, .ref r, .int (nI k), .int (nI A), .int (if r = 2 then 0 else 1)] (mj_hw w c hx hl) = mj_den mj_P E (d + 5) 4 123 [.ref 188, .ref 1, .ref r, .int (nI k), .int (nI A), .int (if r = 2 then 0 else 1), .float 0, .float 0] [] (mj_hw w c c2 hl) ∧ au_X r c1 c2 ∧ (∀ j, c2 188 j = c1 188 j) ∧ (∀ j, j ≠ 6 → c2 r j = c1 r j) ∧ (∀ a k, r + 1 ≤ a → a ≤ r + 10 → c2 a k = c1 a k) ∧ (∀ a k, 13 ≤ a → a ≤ 19 → c2 a k = c1 a k) ∧ ∀ (v : Int32) (m : mj_HI), (r = 2 → m 205 5 = 0) → (r = 177 → ¬ m 205 5 = 0) → au r n l (mj_u c1 (r + 1) K v) m → ∃ m', mj_dc mj_P E (d' + 8) 220 [.ref 205, .int 2, .int (nI K), .int (nI k)] (mj_hw w c m hl) = some (none, mj_hw w c m' hl) ∧ au_N m m' ∧ au r n l (mj_u c2 (r + 1) K v) m' := by
    rcases hr2 with rfl | rfl
    · obtain ⟨c2, n1, n2, n3, n4, n6, n7, n5⟩ := s_note (E := E) (d := d + 4) (d' := d' + 7) (w := w) (c := c) (hl := hl) (n := n) (l := l) (hx := c1) (by rw [c1r _ (by omega)]; exact hb) 2 (nI K) (nI k)
      refine ⟨c2, ?_, n2, fun j => n3 _ _ (by omega) (by omega), fun j hj => n4 _ hj, fun a k z1 z2 => n3 _ _ (by omega) (by omega), fun a k z1 z2 => n3 _ _ (by omega) (by omega), fun v m m5 _ q => ?_⟩
      · rw [e1, e2, if_pos rfl, n1, mj_bv_some]
      · obtain ⟨c3, _, _, _, _, _, o7, o5⟩ := s_note (E := E) (d := d + 4) (d' := d' + 7) (w := w) (c := c) (hl := hl) (n := n) (l := l) (hx := mj_u c1 3 K v) (by rw [mj_u_pt (by omega), c1r _ (by omega)]; exact hb) 2 (nI K) (nI k)
        obtain ⟨m', p1, p2, p3⟩ := o5 m (m5 rfl) q
        refine ⟨m', p1, p2, ?_⟩
        rw [o7, au_nx_n, ← n7] at p3
        exact p3
    · refine ⟨c1, ?_, fun _ _ _ _ _ _ _ => rfl, fun _ => rfl, fun _ _ => rfl, fun _ _ _ _ => rfl, fun _ _ _ _ => rfl, fun v m _ m5 q => ⟨m, ?_, fun _ _ _ _ => rfl, q⟩⟩
      · rw [e1, e2, if_neg (by decide)]
      · rw [e220, q220_0, if_pos (m5 rfl), q220_19]
  have c2C : ∀ a k, 13 ≤ a → a ≤ 19 → c2 a k = hx a k := fun a k z1 z2 => (w2 a k z1 z2).trans (c1C a k z1 z2)
  have c2k0 : c2 188 0 = nI K := by rw [k2, c1k _ (by omega)]; exact hk0
  obtain ⟨g3, pg3, e3⟩ := s_set3 (E := E) (d := d) (w := w) (c := c) (hl := hl) (A := A) (T := T) (flag := if r = 2 then 0 else 1) (hx := c2) hE hr hr2 n10 l12 hK hk (by rw [r2 _ (by omega), c1r _ (by omega)]; exact h0) (by rw [r2 _ (by omega), c1r _ (by omega)]; exact h1) c2k0 (by rw [k2, c1k _ (by omega)]; exact hT) (wl_C_congr qL c2C)
  generalize hca : wl_Wx r c2 cb cw cc L 2 K k 0 (nI T) 1 = ca at e3
  generalize hnv : (if c2 (r + 1) K + ca < nI 99 then c2 (r + 1) K + ca else nI 99) = nv at e3
  obtain ⟨hX, e4, f4, e5⟩ := s_shaken (E := E) (d := d) (d' := d') (w := w) (c := c) (hl := hl) (l := l) (k := k) (A := A) (S0 := S0) (flag := if r = 2 then 0 else 1) (v5 := ca) hr hr2 n10 hA hK n 0 (mj_u g3 (r + 1) K nv) (by omega) (by rw [mj_u_pt (by omega), pg3 _ _ (by omega) (by omega), r2 _ (by omega), c1r _ (by omega)]; exact h0) (by rw [mj_u_pt (by omega), pg3 _ _ (by omega) (by omega)]; exact c2k0)
  have hX188 : ∀ j, hX 188 j = c1 188 j := fun j => by rw [f4 _ _ (by omega), mj_u_pt (by omega), pg3 _ _ (by omega) (by omega), k2]
  refine ⟨hX, if Z < P then Z else P, by rw [hc2, e3]; exact e4, ?_, by rw [hX188, c1k _ (by omega)]; exact hk0, by rw [hX188, c1k _ (by omega)]; exact hT, by rw [hX188]; exact c12, fun hm qM q hu h46 h44 => ?_⟩
  · exact au_X_t c1X (au_X_t x2 (fun a k z1 z2 z3 z4 z5 => by rw [f4 _ _ (by omega), mj_u_pt (by omega), pg3 _ _ z2 z3]))
  · obtain ⟨m1, m2, j1, j2, j3, j4, j5, j6⟩ := s_set4 (E := E) (d' := d') (w := w) (c := c) (hl := hl) (S0 := S0) hr2 n10 l12 hK hk qM q ho ha hk' hP hP2 hZ hWZ h44 hu
    have qc := j5 g pg
    rw [← hc1] at qc
    have hnr : c2 (r + 1) K = m1 206 (5 + K) := by rw [n2 _ _ (by omega) (by omega)]; exact (qc.1.2.2.1 K (by omega)).1
    have hcal : wl_W m1 ops args kd cb cw cc L 2 K k 0 (nI T) 1 = ca := by
      have := au_W (L := L) (κ := 2) (cb := cb) (cw := cw) (cc := cc) (v5 := 0) (v6 := nI T) (v7 := 1) qc (show K < 10 by omega) (show k < 12 by omega)
      rw [show c1 18 = ops from (funext (fun k => c1C _ _ (by omega) (by omega))).trans ho, show c1 19 = args from (funext (fun k => c1C _ _ (by omega) (by omega))).trans ha, show c1 14 = kd from (funext (fun k => c1C _ _ (by omega) (by omega))).trans hk'] at this
      rw [← this, ← hca]
      exact (wl_Wx_c (r2 _ (by omega)) n2 w2).symm
    rw [hcal, ← hnr, hnv] at j6
    have m5' : m1 205 5 = (if r = 2 then 0 else 1) := by rw [j4 _ (by omega)]; exact qM.1
    have qn := au_nerve n10 (show K < 10 by omega) hr2 (au_c qc (h' := c1) (m' := m2) (fun _ _ _ => rfl) (fun a k z => j2 _ _ (by omega) (by omega))) nv
    have m25 : (mj_u m2 206 (5 + K) nv) 205 5 = (if r = 2 then 0 else 1) := by rw [mj_u_pt (by omega), j2 _ _ (by omega) (by omega)]; exact m5'
    obtain ⟨m3, o1, o2, o3⟩ := nr2 nv (mj_u m2 206 (5 + K) nv) (fun z => by rw [m25, if_pos z]) (fun z => by rw [m25, if_neg (by omega)]; decide) qn
    have m3f : ∀ j, m3 205 j = m1 205 j := fun j => by rw [o2 _ _ (by omega) (by omega), mj_u_pt (by omega), j2 _ _ (by omega) (by omega)]
    have qs : au r n l (mj_u g3 (r + 1) K nv) m3 := au_c o3 (fun a k z => by
      by_cases hz : a = r + 1 ∧ k = K
      · obtain ⟨rfl, rfl⟩ := hz; rw [mj_u_eq, mj_u_eq]
      · rw [mj_u_pt (by omega), mj_u_pt (by omega), pg3 _ _ (by omega) (by omega)]) (fun _ _ _ => rfl)
    obtain ⟨m4, t1, t2, t3⟩ := e5 m3 (by rw [m3f, j4 _ (by omega)]; exact qM.2.1) (by rw [m3f, j4 _ (by omega)]; exact h46) qs
    refine ⟨m4, ?_, ?_, t3, by rw [t2 _ _ (by omega), m3f, j4 _ (by omega)]; exact h44, by rw [t2 _ _ (by omega), m3f]; exact j3⟩
    · rw [j6, o1, mj_bv_some, q226_137]; exact t1
    · exact au_M_t j1 (fun a k z1 z2 z3 z4 z5 => by rw [t2 _ _ z1, o2 _ _ z1 (by rw [mj_u_pt (by omega), j2 _ _ (by omega) (by omega)]; exact z2), mj_u_pt (by omega), j2 _ _ z3 z4])
end MJ89b
