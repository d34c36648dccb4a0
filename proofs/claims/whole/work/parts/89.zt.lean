/-- a text is read -/
theorem cs_text (a : Int32) : mj_Cs 117 209 [.int a] := by
  intro E d w c hi hl hE hw hI
  obtain ⟨n, l, q⟩ := iv_I_un.mp hI
  obtain ⟨n10, l12, mN, mL⟩ := iv_Jn q
  obtain ⟨q1, q2, q3, ⟨t, r1, r2, r3, r4, r5, r6⟩, q5⟩ := id q
  have c4 := hw.2.2
  have rd0 : ∀ h' m' : mj_HI, h' 159 0 = 0 → m' 205 14 = 0 → h' 159 1 = m' 205 34 → h' 159 2 = m' 205 35 → iv_IRead h' m' := fun h' m' z1 z2 z3 z4 => ⟨0, by omega, z1, z2, z3, z4, fun i hi => by omega⟩
  obtain ⟨h1, hh1⟩ : ∃ h1, h1 = mj_u (mj_u hi 159 1 0) 159 2 (-1) := ⟨_, rfl⟩
  have f1 : ∀ a z, ¬ (a = 159 ∧ (z = 1 ∨ z = 2)) → h1 a z = hi a z := fun a z hz => by rw [hh1, mj_u_pt (by omega), mj_u_pt (by omega)]
  have hX := iv_JX q
  have h20 : h1 2 0 = nI n := by rw [f1 _ _ (by omega)]; exact hX.1.1
  have h21 : h1 2 1 = nI l := by rw [f1 _ _ (by omega)]; exact hX.1.2.1
  rcases mj_rng a (n := 3) (by omega) with ⟨k, hk, rfl⟩ | hno
  · -- one of the four
    obtain ⟨y, hy⟩ : ∃ y : Nat → Nat, ∀ i, i < t → y i < 256 ∧ hi 214 i = nI (y i) ∧ hi 173 i = (nI (y i)).toInt8.toInt32 := ⟨fun i => if h : i < t then Classical.choose (r6 i h) else 0, fun i hi => by
      have := Classical.choose_spec (r6 i hi)
      simp only [dif_pos hi]; exact this⟩
    have k147 : mj_dc mj_P E (d + 99) 147 [.int (nI k), .int 3] (mj_hw w c h1 hl) = some (some (.int 1), mj_hw w c h1 hl) := by
      rw [show (3 : Int32) = nI 3 from rfl, e147, q147_0, if_neg (by rw [show (0 : Int32) = nI 0 from rfl, mj_nIlt (by omega) (by omega)]; omega), if_neg (by rw [mj_nIlt (by omega) (by omega)]; omega), q147_14, if_pos (Or.inr rfl)]
    obtain ⟨m, TY, TV, BG, g0, hG, s1, s2, s3, s4, s5, s6, s7, s8⟩ := s_startX (E := E) (d := d + 87) (w := w) (c := c) (hl := hl) (k := k) (v2 := nI n) (v3 := nI l) (h := h1) (y := y) (t := t) (by omega) hE r1 (by rw [f1 _ _ (by omega)]; exact r2) (fun i hi => ⟨(hy i hi).1, by rw [f1 _ _ (by omega)]; exact (hy i hi).2.2⟩)
    have t400 := hG.2.1
    have mt := hG.2.2.1
    have hc48 : mj_dc mj_P E (d + 100) 117 [.ref 0, .int (nI k)] (mj_hw w c hi hl) = mj_bi (mj_den mj_P E (d + 98) 48 105 [.ref 159, .int (nI k), .int (nI n), .int (nI l), .int (nI (bgN k)), .int 0, .float 0] [] (mj_hw (3 + k) c g0 hl)) (fun x1 h2 => mj_den mj_P E (d + 99) 117 52 [.ref 0, .int (nI k), .float 0, .float 0] [.int x1] h2) := by
      have s1' : mj_dc mj_P E (d + 99) 48 [.ref 159, .int (nI k), .int (nI n), .int (nI l)] (mj_hw w c h1 hl) = _ := s1
      rw [e117, q117_0, ← hh1, k147, mj_bi_some, q117_21, if_neg (by decide), h20, h21, s1']
    -- the reference's start, from any heap of the class
    have hrf : ∀ H1 : mj_HI, (∀ a z, 205 ≤ a → H1 a z = hi a z) → ∃ hm, mj_dc mj_P E (d + 100) 209 [.ref 205, .int (nI k)] (mj_hw (3 + k) c H1 hl) = mj_bi (mj_den mj_P E (d + 98) 207 9 [.ref 205, .int (nI k)] [] (mj_hw (3 + k) c hm hl)) (fun x1 h2 => mj_den mj_P E (d + 99) 209 47 [.ref 205, .int (nI k), .int (-1)] [.int x1] h2) ∧ (∀ g, MS (3 + k) y t TY TV BG 0 0 g hm) ∧ hm 205 29 = 0 ∧ hm 205 27 = 0 ∧ hm 205 34 = 0 ∧ hm 205 35 = -1 ∧ gK H1 hm := fun H1 hH => by
      have k152 : ∀ h : mj_HI, mj_dc mj_P E (d + 99) 152 [.ref 205, .int (nI k), .int 0, .int 3] (mj_hw (3 + k) c h hl) = some (some (.int 1), mj_hw (3 + k) c h hl) := fun h => by
        have z := s_152h (E := E) (d := d + 98) (w' := 3 + k) (c := c) (hl := hl) (h := h) (lo := 0) (n := k) (hi := nI 3) (by omega) (by omega)
        rw [if_pos ⟨by omega, by rw [mj_nIle (by omega) (by omega)]; omega⟩] at z
        exact z
      obtain ⟨hm, e1, e2, e3, e4, e5, e6, e7⟩ := s_startM (E := E) (d := d + 94) (w := 3 + k) (c := c) (hl := hl) (g := H1) (hm := H1) hG (by rw [hH _ _ (by omega)]; exact r3) (fun i hi => ⟨(hy i hi).1, by rw [hH _ _ (by omega)]; exact (hy i hi).2.1⟩) (fun k hk => by rw [hH _ _ (by omega)]; exact q5.2.2 k hk)
      have e1' : mj_dc mj_P E (d + 98) 182 [.ref 205] _ = _ := e1
      refine ⟨hm, ?_, fun g => ⟨e2.1, e2.2.1, e2.2.2.1, fun k hk => by omega⟩, e3, e4, e5, e6, fun a z h1 _ _ _ _ _ _ => e7 a z (by omega)⟩
      rw [e209, q209_0, k152, mj_bi_some, q209_39, if_neg (by decide), e207, q207_0, e1', mj_bv_some]
    have r4847 : ∀ (H : mj_HI) (v : Int32), ¬ v = -1 → mj_den mj_P E (d + 99) 209 47 [.ref 205, .int (nI k), .int (-1)] [.int v] (mj_hw (3 + k) c H hl) = mj_den mj_P E (d + 99) 209 81 [.ref 205, .int (nI k), .int v] [] (mj_hw (3 + k) c (mj_u H 205 14 0) hl) := fun H v hv => by
      rw [q209_47, if_pos hv, q209_69, if_pos hv]
    -- they fail alike
    have hfail : ∀ g f j, mj_den mj_P E (d + 98) 48 105 [.ref 159, .int (nI k), .int (nI n), .int (nI l), .int (nI (bgN k)), .int 0, .float 0] [] (mj_hw (3 + k) c g0 hl) = some (some (.int 0), mj_hw (3 + k) c g hl) → FT BG g0 g f j → (∀ hm, (∀ g, MS (3 + k) y t TY TV BG 0 0 g hm) → hm 205 29 = 0 → hm 205 6 = nI n → hm 205 7 = nI l → ∃ hm', mj_den mj_P E (d + 98) 207 9 [.ref 205, .int (nI k)] [] (mj_hw (3 + k) c hm hl) = some (some (.int (-1)), mj_hw (3 + k) c hm' hl) ∧ GT BG hm hm' f j) → ∃ (a : Int32) (w' c' : Nat) (hi1 : mj_HI) (hl1 : Nat → Nat → Int64) (hi2 : mj_HI), mj_dc mj_P E (d + 100) 117 (.ref 0 :: [.int (nI k)]) (mj_hw w c hi hl) = some (some (.int a), mj_hw w' c' hi1 hl1) ∧ mj_dc mj_P E (d + 100) 209 (.ref 205 :: [.int (nI k)]) (mj_hw w' c' hi1 hl1) = some (some (.int a), mj_hw w' c' hi2 hl1) ∧ iv_I hi2 hi2 ∧ mj_wc w' c' := fun g f j o1 o2 o3 => by
      obtain ⟨H1, hH1⟩ : ∃ H1, H1 = mj_u g 159 0 0 := ⟨_, rfl⟩
      have fH : ∀ a z, ¬ (159 ≤ a ∧ a ≤ 172) → ¬ (174 ≤ a ∧ a ≤ 176) → H1 a z = hi a z := fun a z z1 z2 => by rw [hH1, mj_u_pt (by omega), o2.1 _ _ (by omega) (by omega) (by omega), s7 _ _ z1 z2, f1 _ _ (by omega)]
      obtain ⟨hm, u1, u2, u3, u4, u5, u6, u7⟩ := hrf H1 (fun a z hz => fH a z (by omega) (by omega))
      have k6 : hm 205 6 = nI n := by rw [u7 _ _ (by omega) (by omega) (by omega) (by omega) (by omega) (by omega) (by omega), fH _ _ (by omega) (by omega)]; exact mN
      have k7 : hm 205 7 = nI l := by rw [u7 _ _ (by omega) (by omega) (by omega) (by omega) (by omega) (by omega) (by omega), fH _ _ (by omega) (by omega)]; exact mL
      obtain ⟨hm', x1, x2⟩ := o3 hm u2 u3 k6 k7
      obtain ⟨H2, hH2⟩ : ∃ H2, H2 = mj_u (mj_u (mj_u hm' 205 34 (hm' 205 32)) 205 35 (hm' 205 33)) 205 14 0 := ⟨_, rfl⟩
      have gH : gK H1 H2 := gK_t u7 (gK_t (gT_K x2.1) (fun a z z1 z2 z3 z4 z5 z6 z7 => by rw [hH2, mj_u_pt (by omega), mj_u_pt (by omega), mj_u_pt (by omega)]))
      have lo : ∀ a z, a < 205 → H2 a z = H1 a z := fun a z hz => gH a z (by omega) (by omega) (by omega) (by omega) (by omega) (by omega) (by omega)
      refine ⟨-1, 3 + k, c, H1, hl, H2, ?_, ?_, iv_I_un.mpr ⟨n, l, iv_J_sameT q (fun a z hz => by rw [lo _ _ (by omega), fH _ _ (by omega) (by omega)]) (fun a z z0 z1 z2 z3 z4 z5 z6 z7 => by rw [gH a z z1 z2 z3 z4 z5 z6 z7, fH _ _ (by omega) (by omega)]) (rd0 _ _ ?_ ?_ ?_ ?_)⟩, ⟨by omega, by omega, c4⟩⟩
      · show mj_dc mj_P E (d + 100) 117 [.ref 0, .int (nI k)] _ = _
        rw [hc48, o1, mj_bi_some, q117_52, if_pos rfl, q117_59, q117_60, if_neg (fun z => z rfl), ← hH1]
      · show mj_dc mj_P E (d + 100) 209 [.ref 205, .int (nI k)] _ = _
        rw [u1, x1, mj_bi_some, q209_47, if_neg (fun z => z rfl), q209_69, if_neg (fun z => z rfl), ← hH2]
      · rw [lo _ _ (by omega), hH1, mj_u_eq]
      · rw [hH2, mj_u_eq]
      · rw [lo _ _ (by omega), hH1, mj_u_pt (by omega), o2.2.1, hH2, mj_u_pt (by omega), mj_u_pt (by omega), mj_u_eq]; exact x2.2.1.symm
      · rw [lo _ _ (by omega), hH1, mj_u_pt (by omega), o2.2.2, hH2, mj_u_pt (by omega), mj_u_eq]; exact x2.2.2.symm
    -- what the class holds where it went well
    have hok : ∀ g, mj_den mj_P E (d + 98) 48 105 [.ref 159, .int (nI k), .int (nI n), .int (nI l), .int (nI (bgN k)), .int 0, .float 0] [] (mj_hw (3 + k) c g0 hl) = some (some (.int 1), mj_hw (3 + k) c g hl) → fT g0 g → mj_dc mj_P E (d + 100) 117 [.ref 0, .int (nI k)] (mj_hw w c hi hl) = mj_den mj_P E (d + 99) 117 75 [.ref 0, .int (nI k), .int 1, .float 0] [] (mj_hw (3 + k) c (mj_u g 159 0 0) hl) ∧ (∀ a z, ¬ (159 ≤ a ∧ a ≤ 172) → ¬ (174 ≤ a ∧ a ≤ 176) → (mj_u g 159 0 0) a z = hi a z) ∧ (mj_u g 159 0 0) 159 0 = 0 ∧ (mj_u g 159 0 0) 159 1 = 0 ∧ (mj_u g 159 0 0) 159 2 = -1 := fun g o1 o2 => by
      refine ⟨?_, fun a z z1 z2 => by rw [mj_u_pt (by omega), o2 _ _ (by omega) (by omega) (by omega), s7 _ _ z1 z2, f1 _ _ (by omega)], mj_u_eq, ?_, ?_⟩
      · rw [hc48, o1, mj_bi_some, q117_52, if_neg (by decide), q117_60, if_pos (by decide)]
      · rw [mj_u_pt (by omega), o2 _ _ (by omega) (by omega) (by omega), s8 _ (by omega), hh1, mj_u_pt (by omega), mj_u_eq]
      · rw [mj_u_pt (by omega), o2 _ _ (by omega) (by omega) (by omega), s8 _ (by omega), hh1, mj_u_eq]
    obtain ⟨p1, p2, p3, p4⟩ := iv_Jp q
    rcases (by omega : k = 0 ∨ k = 1 ∨ k = 2 ∨ k = 3) with rfl | rfl | rfl | rfl
    · -- the law
      rcases s_law (E := E) (d := d + 67) (d' := d + 88) (w' := 3) (c := c) (hl := hl) (v2 := nI n) (v3 := nI l) hG s2 s3 with ⟨f, j, g, o1, o2, o3⟩ | ⟨k', j, L', g, o1, o2, o3, o4, o5, o6, o7, o8⟩
      · refine hfail g f j o1 o2 (fun hm x1 x2 _ _ => ?_)
        obtain ⟨hm', y1, y2⟩ := o3 hm (x1 g0) x2
        have y1' : mj_dc mj_P E (d + 98) 196 [.ref 205] (mj_hw (3 + 0) c hm hl) = some (some (.int (-1)), mj_hw (3 + 0) c hm' hl) := y1
        refine ⟨hm', ?_, y2⟩
        show mj_den mj_P E (d + 98) 207 9 [.ref 205, .int 0] [] _ = _
        rw [q207_9, if_pos (by decide), q207_19, if_pos (by decide), q207_29, if_pos (by decide), q207_41, y1', mj_bi_some, q207_45]
      · obtain ⟨b1, b2, b3, b4, b5⟩ := hok g o1 o2
        obtain ⟨H0, hH0⟩ : ∃ H0, H0 = mj_u g 159 0 0 := ⟨_, rfl⟩
        rw [← hH0] at b1 b2 b3 b4 b5
        have g0' : ∀ a z, a ≠ 159 → H0 a z = g a z := fun a z hz => by rw [hH0, mj_u_pt (by omega)]
        obtain ⟨H1, e1, c1, c2, c3, c5⟩ := s_cpL (E := E) (d := d + 96) (w := 3 + 0) (c := c) (hl := hl) H0
        have e1' : mj_dc mj_P E (d + 99) 22 [.ref 13, .ref 160] (mj_hw (3 + 0) c H0 hl) = some (none, mj_hw (3 + 0) c H1 hl) := e1
        obtain ⟨hm, u1, u2, u3, u4, u5, u6, u7⟩ := hrf H1 (fun a z hz => by rw [c5 _ _ (by omega), b2 _ _ (by omega) (by omega)])
        obtain ⟨hm', y1, y2, y3, y4⟩ := o8 hm (u2 g0) u3
        have y1' : mj_dc mj_P E (d + 98) 196 [.ref 205] (mj_hw (3 + 0) c hm hl) = some (some (.int (nI k')), mj_hw (3 + 0) c hm' hl) := y1
        obtain ⟨hm1, hhm1⟩ : ∃ hm1, hm1 = mj_u hm' 205 14 0 := ⟨_, rfl⟩
        have m27 : hm1 205 27 = 0 := by rw [hhm1, mj_u_pt (by omega), y4 _ _ (by omega) (by omega) (by omega) (by omega) (by omega) (by omega) (by omega)]; exact u4
        have m28 : hm1 205 28 = nI (iv_ph (g 165) L') := by rw [hhm1, mj_u_pt (by omega)]; exact y2.1
        have hLge := iv_ph_ge (g 165) L'
        obtain ⟨H2, e2, t1, t2, t3, t4⟩ := s_takeL (E := E) (d := d + 98) (w := 3 + 0) (c := c) (hl := hl) (k := k') (p := iv_ph (g 165) L') (hm := hm1) o3 (by omega) m27 m28
        have lo : ∀ a z, a < 205 → H2 a z = H1 a z := fun a z hz => by rw [t4 _ _ (by omega), hhm1, mj_u_pt (by omega), y4 _ _ (by omega) (by omega) (by omega) (by omega) (by omega) (by omega) (by omega), u7 _ _ (by omega) (by omega) (by omega) (by omega) (by omega) (by omega) (by omega)]
        have up : ∀ a z, 205 ≤ a → ¬ (216 ≤ a ∧ a ≤ 222) → ¬ (a = 205 ∧ (z = 0 ∨ (14 ≤ z ∧ z ≤ 18) ∨ (27 ≤ z ∧ z ≤ 35))) → a ≠ 223 → ¬ (a = 224 ∧ 32 ≤ z) → ¬ (a = 225 ∧ 10 ≤ z) → ¬ (a = 226 ∧ 48 ≤ z) → H2 a z = hi a z := fun a z z0 z1 z2 z3 z4 z5 z6 => by rw [t4 _ _ z1, hhm1, mj_u_pt (by omega), y4 _ _ (by omega) (by omega) (by omega) (by omega) (by omega) (by omega) (by omega), u7 _ _ (by omega) (by omega) (by omega) (by omega) (by omega) (by omega) (by omega), c5 _ _ (by omega), b2 _ _ (by omega) (by omega)]
        have lw : ∀ a z, a < 159 ∨ a = 203 → ¬ (13 ≤ a ∧ a ≤ 19) → H2 a z = hi a z := fun a z z1 z2 => by rw [lo _ _ (by omega), c5 _ _ z2, b2 _ _ (by omega) (by omega)]
        refine ⟨nI k', 3 + 0, c, H1, hl, H2, ?_, ?_, iv_I_un.mpr ⟨n, l, iv_J_new q (fun a z z1 z2 _ => lw a z (by omega) (by omega)) (fun a z z1 z2 z3 z4 z5 z6 => up a z z1 (by omega) (by omega) (by omega) (by omega) (by omega) (by omega)) ?_ ?_ ?_ ?_ (Or.inl ⟨lw _ _ (by omega) (by omega), up _ _ (by omega) (by omega) (by omega) (by omega) (by omega) (by omega) (by omega)⟩) (rd0 _ _ ?_ ?_ ?_ ?_)⟩, ⟨by omega, by omega, c4⟩⟩
        · show mj_dc mj_P E (d + 100) 117 [.ref 0, .int (nI 0)] _ = _
          rw [b1, q117_75, if_neg (fun z => z rfl), e1', mj_bv_some, q117_96, c1, g0' _ _ (by omega), o4]
        · show mj_dc mj_P E (d + 100) 209 [.ref 205, .int (nI 0)] _ = _
          have k9 : mj_den mj_P E (d + 98) 207 9 [.ref 205, .int (nI 0)] [] (mj_hw (3 + 0) c hm hl) = some (some (.int (nI k')), mj_hw (3 + 0) c hm' hl) := by
            rw [q207_9, if_pos (by decide), q207_19, if_pos (by decide), q207_29, if_pos (by decide), q207_41, y1', mj_bi_some, q207_45]
          rw [u1, k9, mj_bi_some, r4847 _ _ (nI_n1 (by omega)), ← hhm1, q209_81, if_neg (fun z => z rfl), e2, mj_bv_some, q209_90, q209_99]
        · refine tx_ILaw (g := g) (hm := hm') o3 (by omega) (by omega) ?_ t3 (fun j i hj hi => ?_) (fun i hi => ⟨?_, ?_⟩) (fun a i z1 z2 hi => by rw [t1 a i z1 z2 hi, hhm1, mj_u_pt (by omega)]) (fun p hp => by rw [(t2 p hp).1, (t2 p hp).2, hhm1, mj_u_pt (by omega), mj_u_pt (by omega)]; exact ⟨rfl, rfl⟩) y2 y3
          · show H2 13 0 = _
            rw [lo _ _ (by omega), c1, g0' _ _ (by omega), o4]
          · show H2 (1 + (13 + j)) i = _
            rw [show 1 + (13 + j) = 14 + j by omega, lo _ _ (by omega), c2 j i hj hi, g0' _ _ (by omega)]
          · show H2 18 i = _
            rw [lo _ _ (by omega), (c3 i hi).1, g0' _ _ (by omega)]
          · show H2 19 i = _
            rw [lo _ _ (by omega), (c3 i hi).2, g0' _ _ (by omega)]
        · exact iv_ISay_congr (fun j k z1 z2 _ => lw _ _ (by omega) (by omega)) (up _ _ (by omega) (by omega) (by omega) (by omega) (by omega) (by omega) (by omega)) (fun k hk => up _ _ (by omega) (by omega) (by omega) (by omega) (by omega) (by omega) (by omega)) p2
        · exact iv_IPin_congr (Nat.le_refl _) (fun j k z1 z2 _ => lw _ _ (by omega) (by omega)) (up _ _ (by omega) (by omega) (by omega) (by omega) (by omega) (by omega) (by omega)) (fun k hk => up _ _ (by omega) (by omega) (by omega) (by omega) (by omega) (by omega) (by omega)) p3
        · exact iv_ISale_congr (Nat.le_refl _) (Nat.le_refl _) (fun j k z1 z2 _ => lw _ _ (by omega) (by omega)) (up _ _ (by omega) (by omega) (by omega) (by omega) (by omega) (by omega) (by omega)) (fun k hk => up _ _ (by omega) (by omega) (by omega) (by omega) (by omega) (by omega) (by omega)) p4
        · rw [lo _ _ (by omega), c5 _ _ (by omega)]; exact b3
        · rw [t4 _ _ (by omega), hhm1, mj_u_eq]
        · rw [lo _ _ (by omega), c5 _ _ (by omega), b4, t4 _ _ (by omega), hhm1, mj_u_pt (by omega), y4 _ _ (by omega) (by omega) (by omega) (by omega) (by omega) (by omega) (by omega)]; exact u5.symm
        · rw [lo _ _ (by omega), c5 _ _ (by omega), b5, t4 _ _ (by omega), hhm1, mj_u_pt (by omega), y4 _ _ (by omega) (by omega) (by omega) (by omega) (by omega) (by omega) (by omega)]; exact u6.symm
    · -- speech
      rcases s_say (E := E) (d := d + 67) (d' := d + 88) (w' := 3 + 1) (c := c) (hl := hl) (v2 := nI n) (v3 := nI l) hG s2 s4 with ⟨f, j, g, o1, o2, o3⟩ | ⟨k', g, o1, o2, o3, o4, o8⟩
      · refine hfail g f j o1 o2 (fun hm x1 x2 _ _ => ?_)
        obtain ⟨hm', y1, y2⟩ := o3 hm (x1 g0)
        have y1' : mj_dc mj_P E (d + 98) 202 [.ref 205] (mj_hw (3 + 1) c hm hl) = some (some (.int (-1)), mj_hw (3 + 1) c hm' hl) := y1
        refine ⟨hm', ?_, y2⟩
        show mj_den mj_P E (d + 98) 207 9 [.ref 205, .int 1] [] _ = _
        rw [q207_9, if_neg (fun z => z rfl), y1', mj_bi_some, q207_18]
      · obtain ⟨b1, b2, b3, b4, b5⟩ := hok g o1 o2
        obtain ⟨H0, hH0⟩ : ∃ H0, H0 = mj_u g 159 0 0 := ⟨_, rfl⟩
        rw [← hH0] at b1 b2 b3 b4 b5
        have g0' : ∀ a z, a ≠ 159 → H0 a z = g a z := fun a z hz => by rw [hH0, mj_u_pt (by omega)]
        obtain ⟨Hf, hHf⟩ : ∃ Hf, Hf = H0 := ⟨_, rfl⟩
        have ff : ∀ a z, ¬ (a = 91 ∧ z = 0) → Hf a z = H0 a z := fun a z _ => by rw [hHf]
        obtain ⟨H1, e1, c1, c2, c5⟩ := s_cpN (E := E) (d := d + 96) (w := 3 + 1) (c := c) (hl := hl) Hf (b := 22) (by omega)
        have e1' : mj_dc mj_P E (d + 99) 25 [.ref 22, .ref 169] (mj_hw (3 + 1) c Hf hl) = some (none, mj_hw (3 + 1) c H1 hl) := e1
        obtain ⟨hm, u1, u2, u3, u4, u5, u6, u7⟩ := hrf H1 (fun a z hz => by rw [c5 _ _ (by omega), ff _ _ (by omega), b2 _ _ (by omega) (by omega)])
        have k6 : hm 205 6 = nI n := by rw [u7 _ _ (by omega) (by omega) (by omega) (by omega) (by omega) (by omega) (by omega), c5 _ _ (by omega), ff _ _ (by omega), b2 _ _ (by omega) (by omega)]; exact mN
        have k7 : hm 205 7 = nI l := by rw [u7 _ _ (by omega) (by omega) (by omega) (by omega) (by omega) (by omega) (by omega), c5 _ _ (by omega), ff _ _ (by omega), b2 _ _ (by omega) (by omega)]; exact mL
        obtain ⟨hm', y1, y3, y4⟩ := o8 hm (u2 g0)
        have y1' : mj_dc mj_P E (d + 98) 202 [.ref 205] (mj_hw (3 + 1) c hm hl) = some (some (.int (nI k')), mj_hw (3 + 1) c hm' hl) := y1
        obtain ⟨hm1, hhm1⟩ : ∃ hm1, hm1 = mj_u hm' 205 14 0 := ⟨_, rfl⟩
        obtain ⟨H2, e2, t1, t3, t4⟩ := s_t1 (E := E) (d := d + 98) (w := 3 + 1) (c := c) (hl := hl) (k := k') o3 hm1
        have lo : ∀ a z, a < 205 → H2 a z = H1 a z := fun a z hz => by rw [t4 _ _ (by omega) (by omega), hhm1, mj_u_pt (by omega), y4 _ _ (by omega) (by omega) (by omega) (by omega) (by omega) (by omega) (by omega), u7 _ _ (by omega) (by omega) (by omega) (by omega) (by omega) (by omega) (by omega)]
        have up : ∀ a z, 205 ≤ a → a ≠ 224 → ¬ (217 ≤ a ∧ a ≤ 220 ∧ 32 ≤ z) → ¬ ((a = 221 ∨ a = 222) ∧ 800 ≤ z) → ¬ (a = 205 ∧ (z = 0 ∨ (14 ≤ z ∧ z ≤ 18) ∨ (27 ≤ z ∧ z ≤ 36))) → a ≠ 223 → ¬ (a = 224 ∧ 32 ≤ z) → ¬ (a = 225 ∧ 10 ≤ z) → ¬ (a = 226 ∧ 48 ≤ z) → H2 a z = hi a z := fun a z z0 z1 z2 z3 z4 z5 z6 z7 z8 => by rw [t4 _ _ z1 (by omega), hhm1, mj_u_pt (by omega), y4 _ _ (by omega) (by omega) (by omega) (by omega) (by omega) (by omega) (by omega), u7 _ _ (by omega) (by omega) (by omega) (by omega) (by omega) (by omega) (by omega), c5 _ _ (by omega), ff _ _ (by omega), b2 _ _ (by omega) (by omega)]
        have lw : ∀ a z, a < 159 ∨ a = 203 → ¬ (22 ≤ a ∧ a ≤ 25) → ¬ (a = 91 ∧ z = 0) → H2 a z = hi a z := fun a z z1 z2 z3 => by rw [lo _ _ (by omega), c5 _ _ z2, ff _ _ z3, b2 _ _ (by omega) (by omega)]
        refine ⟨nI k', 3 + 1, c, H1, hl, H2, ?_, ?_, iv_I_un.mpr ⟨n, l, iv_J_new q (fun a z z1 z2 z3 => lw a z (by omega) (by omega) z3) (fun a z z1 z2 z3 z4 z5 z6 => up a z z1 (by omega) (by omega) (by omega) (by omega) (by omega) (by omega) (by omega) (by omega)) ?_ ?_ ?_ ?_ (Or.inl ⟨by rw [lo _ _ (by omega), c5 _ _ (by omega), hHf, b2 _ _ (by omega) (by omega)], up _ _ (by omega) (by omega) (by omega) (by omega) (by omega) (by omega) (by omega) (by omega) (by omega)⟩) (rd0 _ _ ?_ ?_ ?_ ?_)⟩, ⟨by omega, by omega, c4⟩⟩
        · show mj_dc mj_P E (d + 100) 117 [.ref 0, .int (nI 1)] _ = _
          rw [b1, q117_75, if_pos (by decide), q117_107, if_pos (by decide), q117_119, e102, q102_0, if_neg (fun z => z rfl), mj_br_some, q117_127_2, ← hHf, e1', mj_bv_some, q117_139_2, c1, ff _ _ (by omega), g0' _ _ (by omega), o4]
        · show mj_dc mj_P E (d + 100) 209 [.ref 205, .int (nI 1)] _ = _
          have k9 : mj_den mj_P E (d + 98) 207 9 [.ref 205, .int (nI 1)] [] (mj_hw (3 + 1) c hm hl) = some (some (.int (nI k')), mj_hw (3 + 1) c hm' hl) := by
            rw [q207_9, if_neg (fun z => z rfl), y1', mj_bi_some, q207_18]
          have e2' : mj_dc mj_P E (d + 99) 208 [.ref 205, .int (nI 1), .int (nI k')] (mj_hw (3 + 1) c hm1 hl) = some (none, mj_hw (3 + 1) c H2 hl) := e2
          rw [u1, k9, mj_bi_some, r4847 _ _ (nI_n1 (by omega)), ← hhm1, q209_81, if_pos (by decide), q209_93, e2', mj_bv_some, q209_99]
        · exact iv_ILaw_congr (fun j k z1 z2 _ => lw _ _ (by omega) (by omega) (by omega)) (fun a k z1 z2 z3 => up a k (by omega) (by omega) (fun z => by rcases (by omega : a = 217 ∨ a = 218 ∨ a = 219 ∨ a = 220) with rfl | rfl | rfl | rfl <;> (have z3' : k < 16 := z3; omega)) (fun z => by rcases (by omega : a = 221 ∨ a = 222) with rfl | rfl <;> (have z3' : k < 400 := z3; omega)) (by omega) (by omega) (by omega) (by omega) (by omega)) p1
        · refine ⟨k', o3, (by show H2 22 0 = _; rw [lo _ _ (by omega), c1, ff _ _ (by omega), g0' _ _ (by omega), o4]), t3, fun i hi => ?_⟩
          obtain ⟨a1, y', a2, a3, a4, a5⟩ := y3 i hi
          have k1 : iv_wC 1 H2 23 i = g 171 i := (by show H2 24 i = _; rw [lo _ _ (by omega), show 24 = 22 + 1 + 1 from rfl, c2 1 i (by omega) (by omega), ff _ _ (by omega), g0' _ _ (by omega)])
          have k2 : iv_wC 1 H2 24 i = g 172 i := (by show H2 25 i = _; rw [lo _ _ (by omega), show 25 = 22 + 1 + 2 from rfl, c2 2 i (by omega) (by omega), ff _ _ (by omega), g0' _ _ (by omega)])
          refine ⟨?_, y', a2, a3, k2.trans a4, ?_⟩
          · rw [k1, t1 _ (by omega), hhm1, mj_u_pt (by omega)]; exact a1
          · rw [t1 _ (by omega), hhm1, mj_u_pt (by omega), show 32 + (2 * i + 1) = 32 + 2 * i + 1 by omega]; exact a5
        · exact iv_IPin_congr (Nat.le_refl _) (fun j k z1 z2 _ => lw _ _ (by omega) (by omega) (by omega)) (up _ _ (by omega) (by omega) (by omega) (by omega) (by omega) (by omega) (by omega) (by omega) (by omega)) (fun k hk => up _ _ (by omega) (by omega) (by omega) (by omega) (by omega) (by omega) (by omega) (by omega) (by omega)) p3
        · exact iv_ISale_congr (Nat.le_refl _) (Nat.le_refl _) (fun j k z1 z2 _ => lw _ _ (by omega) (by omega) (by omega)) (up _ _ (by omega) (by omega) (by omega) (by omega) (by omega) (by omega) (by omega) (by omega) (by omega)) (fun k hk => up _ _ (by omega) (by omega) (by omega) (by omega) (by omega) (by omega) (by omega) (by omega) (by omega)) p4
        · rw [lo _ _ (by omega), c5 _ _ (by omega), ff _ _ (by omega)]; exact b3
        · rw [t4 _ _ (by omega) (by omega), hhm1, mj_u_eq]
        · rw [lo _ _ (by omega), c5 _ _ (by omega), ff _ _ (by omega), b4, t4 _ _ (by omega) (by omega), hhm1, mj_u_pt (by omega), y4 _ _ (by omega) (by omega) (by omega) (by omega) (by omega) (by omega) (by omega)]; exact u5.symm
        · rw [lo _ _ (by omega), c5 _ _ (by omega), ff _ _ (by omega), b5, t4 _ _ (by omega) (by omega), hhm1, mj_u_pt (by omega), y4 _ _ (by omega) (by omega) (by omega) (by omega) (by omega) (by omega) (by omega)]; exact u6.symm
    · -- pinches
      rcases s_pin (E := E) (d := d + 67) (d' := d + 88) (w' := 3 + 2) (c := c) (hl := hl) (v2 := nI n) (v3 := nI l) n10 hG s2 s4 s5 with ⟨f, j, g, o1, o2, o3⟩ | ⟨k', g, o1, o2, o3, o4, o8⟩
      · refine hfail g f j o1 o2 (fun hm x1 x2 x6 _ => ?_)
        obtain ⟨hm', y1, y2⟩ := o3 hm (x1 g0) x6
        have y1' : mj_dc mj_P E (d + 98) 204 [.ref 205] (mj_hw (3 + 2) c hm hl) = some (some (.int (-1)), mj_hw (3 + 2) c hm' hl) := y1
        refine ⟨hm', ?_, y2⟩
        show mj_den mj_P E (d + 98) 207 9 [.ref 205, .int 2] [] _ = _
        rw [q207_9, if_pos (by decide), q207_19, if_neg (fun z => z rfl), y1', mj_bi_some, q207_28]
      · obtain ⟨b1, b2, b3, b4, b5⟩ := hok g o1 o2
        obtain ⟨H0, hH0⟩ : ∃ H0, H0 = mj_u g 159 0 0 := ⟨_, rfl⟩
        rw [← hH0] at b1 b2 b3 b4 b5
        have g0' : ∀ a z, a ≠ 159 → H0 a z = g a z := fun a z hz => by rw [hH0, mj_u_pt (by omega)]
        obtain ⟨Hf, hHf⟩ : ∃ Hf, Hf = mj_u H0 91 0 0 := ⟨_, rfl⟩
        have ff : ∀ a z, ¬ (a = 91 ∧ z = 0) → Hf a z = H0 a z := fun a z hz => by rw [hHf, mj_u_pt (by omega)]
        obtain ⟨H1, e1, c1, c2, c5⟩ := s_cpN (E := E) (d := d + 96) (w := 3 + 2) (c := c) (hl := hl) Hf (b := 26) (by omega)
        have e1' : mj_dc mj_P E (d + 99) 25 [.ref 26, .ref 169] (mj_hw (3 + 2) c Hf hl) = some (none, mj_hw (3 + 2) c H1 hl) := e1
        obtain ⟨hm, u1, u2, u3, u4, u5, u6, u7⟩ := hrf H1 (fun a z hz => by rw [c5 _ _ (by omega), ff _ _ (by omega), b2 _ _ (by omega) (by omega)])
        have k6 : hm 205 6 = nI n := by rw [u7 _ _ (by omega) (by omega) (by omega) (by omega) (by omega) (by omega) (by omega), c5 _ _ (by omega), ff _ _ (by omega), b2 _ _ (by omega) (by omega)]; exact mN
        have k7 : hm 205 7 = nI l := by rw [u7 _ _ (by omega) (by omega) (by omega) (by omega) (by omega) (by omega) (by omega), c5 _ _ (by omega), ff _ _ (by omega), b2 _ _ (by omega) (by omega)]; exact mL
        obtain ⟨hm', y1, y3, y4⟩ := o8 hm (u2 g0) k6
        have y1' : mj_dc mj_P E (d + 98) 204 [.ref 205] (mj_hw (3 + 2) c hm hl) = some (some (.int (nI k')), mj_hw (3 + 2) c hm' hl) := y1
        obtain ⟨hm1, hhm1⟩ : ∃ hm1, hm1 = mj_u hm' 205 14 0 := ⟨_, rfl⟩
        obtain ⟨H2, e2, t1, t3, t5, t4⟩ := s_t2 (E := E) (d := d + 98) (w := 3 + 2) (c := c) (hl := hl) (k := k') hm1
        have lo : ∀ a z, a < 205 → H2 a z = H1 a z := fun a z hz => by rw [t4 _ _ (by omega) (by omega), hhm1, mj_u_pt (by omega), y4 _ _ (by omega) (by omega) (by omega) (by omega) (by omega) (by omega) (by omega), u7 _ _ (by omega) (by omega) (by omega) (by omega) (by omega) (by omega) (by omega)]
        have up : ∀ a z, 205 ≤ a → a ≠ 225 → ¬ (217 ≤ a ∧ a ≤ 220 ∧ 32 ≤ z) → ¬ ((a = 221 ∨ a = 222) ∧ 800 ≤ z) → ¬ (a = 205 ∧ (z = 0 ∨ (14 ≤ z ∧ z ≤ 18) ∨ (27 ≤ z ∧ z ≤ 35) ∨ z = 38 ∨ z = 3)) → a ≠ 223 → ¬ (a = 224 ∧ 32 ≤ z) → ¬ (a = 225 ∧ 10 ≤ z) → ¬ (a = 226 ∧ 48 ≤ z) → H2 a z = hi a z := fun a z z0 z1 z2 z3 z4 z5 z6 z7 z8 => by rw [t4 _ _ z1 (by omega), hhm1, mj_u_pt (by omega), y4 _ _ (by omega) (by omega) (by omega) (by omega) (by omega) (by omega) (by omega), u7 _ _ (by omega) (by omega) (by omega) (by omega) (by omega) (by omega) (by omega), c5 _ _ (by omega), ff _ _ (by omega), b2 _ _ (by omega) (by omega)]
        have lw : ∀ a z, a < 159 ∨ a = 203 → ¬ (26 ≤ a ∧ a ≤ 29) → ¬ (a = 91 ∧ z = 0) → H2 a z = hi a z := fun a z z1 z2 z3 => by rw [lo _ _ (by omega), c5 _ _ z2, ff _ _ z3, b2 _ _ (by omega) (by omega)]
        refine ⟨nI k', 3 + 2, c, H1, hl, H2, ?_, ?_, iv_I_un.mpr ⟨n, l, iv_J_new q (fun a z z1 z2 z3 => lw a z (by omega) (by omega) z3) (fun a z z1 z2 z3 z4 z5 z6 => up a z z1 (by omega) (by omega) (by omega) (by omega) (by omega) (by omega) (by omega) (by omega)) ?_ ?_ ?_ ?_ (Or.inr ⟨by rw [lo _ _ (by omega), c5 _ _ (by omega), hHf, mj_u_eq], t5⟩) (rd0 _ _ ?_ ?_ ?_ ?_)⟩, ⟨by omega, by omega, c4⟩⟩
        · show mj_dc mj_P E (d + 100) 117 [.ref 0, .int (nI 2)] _ = _
          rw [b1, q117_75, if_pos (by decide), q117_107, if_neg (by decide), e45, q45_0, mj_bv_some, ← hHf, q117_119, e102, q102_0, if_pos (by decide), q102_10, if_neg (fun z => z rfl), q102_26, mj_br_some, q117_127_1, e1', mj_bv_some, q117_139_1, c1, ff _ _ (by omega), g0' _ _ (by omega), o4]
        · show mj_dc mj_P E (d + 100) 209 [.ref 205, .int (nI 2)] _ = _
          have k9 : mj_den mj_P E (d + 98) 207 9 [.ref 205, .int (nI 2)] [] (mj_hw (3 + 2) c hm hl) = some (some (.int (nI k')), mj_hw (3 + 2) c hm' hl) := by
            rw [q207_9, if_pos (by decide), q207_19, if_neg (fun z => z rfl), y1', mj_bi_some, q207_28]
          have e2' : mj_dc mj_P E (d + 99) 208 [.ref 205, .int (nI 2), .int (nI k')] (mj_hw (3 + 2) c hm1 hl) = some (none, mj_hw (3 + 2) c H2 hl) := e2
          rw [u1, k9, mj_bi_some, r4847 _ _ (nI_n1 (by omega)), ← hhm1, q209_81, if_pos (by decide), q209_93, e2', mj_bv_some, q209_99]
        · exact iv_ILaw_congr (fun j k z1 z2 _ => lw _ _ (by omega) (by omega) (by omega)) (fun a k z1 z2 z3 => up a k (by omega) (by omega) (fun z => by rcases (by omega : a = 217 ∨ a = 218 ∨ a = 219 ∨ a = 220) with rfl | rfl | rfl | rfl <;> (have z3' : k < 16 := z3; omega)) (fun z => by rcases (by omega : a = 221 ∨ a = 222) with rfl | rfl <;> (have z3' : k < 400 := z3; omega)) (by omega) (by omega) (by omega) (by omega) (by omega)) p1
        · exact iv_ISay_congr (fun j k z1 z2 _ => lw _ _ (by omega) (by omega) (by omega)) (up _ _ (by omega) (by omega) (by omega) (by omega) (by omega) (by omega) (by omega) (by omega) (by omega)) (fun k hk => up _ _ (by omega) (by omega) (by omega) (by omega) (by omega) (by omega) (by omega) (by omega) (by omega)) p2
        · obtain ⟨fq, uq, hq1, hq2⟩ := y3
          refine ⟨k', fq, uq, o3, (by show H2 26 0 = _; rw [lo _ _ (by omega), c1, ff _ _ (by omega), g0' _ _ (by omega), o4]), t3, fun i hi => ?_, fun z hz => ?_⟩
          · have k1 : iv_wC 1 H2 27 i = g 171 i := (by show H2 28 i = _; rw [lo _ _ (by omega), show 28 = 26 + 1 + 1 from rfl, c2 1 i (by omega) (by omega), ff _ _ (by omega), g0' _ _ (by omega)])
            have k2 : iv_wC 1 H2 28 i = g 172 i := (by show H2 29 i = _; rw [lo _ _ (by omega), show 29 = 26 + 1 + 2 from rfl, c2 2 i (by omega) (by omega), ff _ _ (by omega), g0' _ _ (by omega)])
            rw [k1, k2]; exact hq1 i hi
          · rw [t1 z hz, hhm1, mj_u_pt (by omega)]; exact hq2 z hz
        · exact iv_ISale_congr (Nat.le_refl _) (Nat.le_refl _) (fun j k z1 z2 _ => lw _ _ (by omega) (by omega) (by omega)) (up _ _ (by omega) (by omega) (by omega) (by omega) (by omega) (by omega) (by omega) (by omega) (by omega)) (fun k hk => up _ _ (by omega) (by omega) (by omega) (by omega) (by omega) (by omega) (by omega) (by omega) (by omega)) p4
        · rw [lo _ _ (by omega), c5 _ _ (by omega), ff _ _ (by omega)]; exact b3
        · rw [t4 _ _ (by omega) (by omega), hhm1, mj_u_eq]
        · rw [lo _ _ (by omega), c5 _ _ (by omega), ff _ _ (by omega), b4, t4 _ _ (by omega) (by omega), hhm1, mj_u_pt (by omega), y4 _ _ (by omega) (by omega) (by omega) (by omega) (by omega) (by omega) (by omega)]; exact u5.symm
        · rw [lo _ _ (by omega), c5 _ _ (by omega), ff _ _ (by omega), b5, t4 _ _ (by omega) (by omega), hhm1, mj_u_pt (by omega), y4 _ _ (by omega) (by omega) (by omega) (by omega) (by omega) (by omega) (by omega)]; exact u6.symm
    · -- the sale
      rcases s_sale (E := E) (d := d + 67) (d' := d + 88) (w' := 3 + 3) (c := c) (hl := hl) (v2 := nI n) (v3 := nI l) n10 l12 hG s2 s4 s5 s6 with ⟨f, j, g, o1, o2, o3⟩ | ⟨k', g, o1, o2, o3, o4, o8⟩
      · refine hfail g f j o1 o2 (fun hm x1 x2 x6 x7 => ?_)
        obtain ⟨hm', y1, y2⟩ := o3 hm (x1 g0) x6 x7
        have y1' : mj_dc mj_P E (d + 98) 206 [.ref 205] (mj_hw (3 + 3) c hm hl) = some (some (.int (-1)), mj_hw (3 + 3) c hm' hl) := y1
        refine ⟨hm', ?_, y2⟩
        show mj_den mj_P E (d + 98) 207 9 [.ref 205, .int 3] [] _ = _
        rw [q207_9, if_pos (by decide), q207_19, if_pos (by decide), q207_29, if_neg (fun z => z rfl), y1', mj_bi_some, q207_38, q207_45]
      · obtain ⟨b1, b2, b3, b4, b5⟩ := hok g o1 o2
        obtain ⟨H0, hH0⟩ : ∃ H0, H0 = mj_u g 159 0 0 := ⟨_, rfl⟩
        rw [← hH0] at b1 b2 b3 b4 b5
        have g0' : ∀ a z, a ≠ 159 → H0 a z = g a z := fun a z hz => by rw [hH0, mj_u_pt (by omega)]
        obtain ⟨Hf, hHf⟩ : ∃ Hf, Hf = mj_u H0 91 0 0 := ⟨_, rfl⟩
        have ff : ∀ a z, ¬ (a = 91 ∧ z = 0) → Hf a z = H0 a z := fun a z hz => by rw [hHf, mj_u_pt (by omega)]
        obtain ⟨H1, e1, c1, c2, c5⟩ := s_cpN (E := E) (d := d + 96) (w := 3 + 3) (c := c) (hl := hl) Hf (b := 30) (by omega)
        have e1' : mj_dc mj_P E (d + 99) 25 [.ref 30, .ref 169] (mj_hw (3 + 3) c Hf hl) = some (none, mj_hw (3 + 3) c H1 hl) := e1
        obtain ⟨hm, u1, u2, u3, u4, u5, u6, u7⟩ := hrf H1 (fun a z hz => by rw [c5 _ _ (by omega), ff _ _ (by omega), b2 _ _ (by omega) (by omega)])
        have k6 : hm 205 6 = nI n := by rw [u7 _ _ (by omega) (by omega) (by omega) (by omega) (by omega) (by omega) (by omega), c5 _ _ (by omega), ff _ _ (by omega), b2 _ _ (by omega) (by omega)]; exact mN
        have k7 : hm 205 7 = nI l := by rw [u7 _ _ (by omega) (by omega) (by omega) (by omega) (by omega) (by omega) (by omega), c5 _ _ (by omega), ff _ _ (by omega), b2 _ _ (by omega) (by omega)]; exact mL
        obtain ⟨hm', y1, y3, y4⟩ := o8 hm (u2 g0) k6 k7
        have y1' : mj_dc mj_P E (d + 98) 206 [.ref 205] (mj_hw (3 + 3) c hm hl) = some (some (.int (nI k')), mj_hw (3 + 3) c hm' hl) := y1
        obtain ⟨hm1, hhm1⟩ : ∃ hm1, hm1 = mj_u hm' 205 14 0 := ⟨_, rfl⟩
        obtain ⟨H2, e2, t1, t3, t5, t4⟩ := s_t3 (E := E) (d := d + 98) (w := 3 + 3) (c := c) (hl := hl) (k := k') o3 hm1
        have lo : ∀ a z, a < 205 → H2 a z = H1 a z := fun a z hz => by rw [t4 _ _ (by omega) (by omega), hhm1, mj_u_pt (by omega), y4 _ _ (by omega) (by omega) (by omega) (by omega) (by omega) (by omega) (by omega), u7 _ _ (by omega) (by omega) (by omega) (by omega) (by omega) (by omega) (by omega)]
        have up : ∀ a z, 205 ≤ a → a ≠ 226 → ¬ (217 ≤ a ∧ a ≤ 220 ∧ 32 ≤ z) → ¬ ((a = 221 ∨ a = 222) ∧ 800 ≤ z) → ¬ (a = 205 ∧ (z = 0 ∨ (14 ≤ z ∧ z ≤ 18) ∨ (27 ≤ z ∧ z ≤ 35) ∨ z = 40 ∨ z = 3)) → a ≠ 223 → ¬ (a = 224 ∧ 32 ≤ z) → ¬ (a = 225 ∧ 10 ≤ z) → ¬ (a = 226 ∧ 48 ≤ z) → H2 a z = hi a z := fun a z z0 z1 z2 z3 z4 z5 z6 z7 z8 => by rw [t4 _ _ z1 (by omega), hhm1, mj_u_pt (by omega), y4 _ _ (by omega) (by omega) (by omega) (by omega) (by omega) (by omega) (by omega), u7 _ _ (by omega) (by omega) (by omega) (by omega) (by omega) (by omega) (by omega), c5 _ _ (by omega), ff _ _ (by omega), b2 _ _ (by omega) (by omega)]
        have lw : ∀ a z, a < 159 ∨ a = 203 → ¬ (30 ≤ a ∧ a ≤ 33) → ¬ (a = 91 ∧ z = 0) → H2 a z = hi a z := fun a z z1 z2 z3 => by rw [lo _ _ (by omega), c5 _ _ z2, ff _ _ z3, b2 _ _ (by omega) (by omega)]
        refine ⟨nI k', 3 + 3, c, H1, hl, H2, ?_, ?_, iv_I_un.mpr ⟨n, l, iv_J_new q (fun a z z1 z2 z3 => lw a z (by omega) (by omega) z3) (fun a z z1 z2 z3 z4 z5 z6 => up a z z1 (by omega) (by omega) (by omega) (by omega) (by omega) (by omega) (by omega) (by omega)) ?_ ?_ ?_ ?_ (Or.inr ⟨by rw [lo _ _ (by omega), c5 _ _ (by omega), hHf, mj_u_eq], t5⟩) (rd0 _ _ ?_ ?_ ?_ ?_)⟩, ⟨by omega, by omega, c4⟩⟩
        · show mj_dc mj_P E (d + 100) 117 [.ref 0, .int (nI 3)] _ = _
          rw [b1, q117_75, if_pos (by decide), q117_107, if_neg (by decide), e45, q45_0, mj_bv_some, ← hHf, q117_119, e102, q102_0, if_pos (by decide), q102_10, if_pos (by decide), q102_22, q102_26_1, mj_br_some, q117_127, e1', mj_bv_some, q117_139, c1, ff _ _ (by omega), g0' _ _ (by omega), o4]
        · show mj_dc mj_P E (d + 100) 209 [.ref 205, .int (nI 3)] _ = _
          have k9 : mj_den mj_P E (d + 98) 207 9 [.ref 205, .int (nI 3)] [] (mj_hw (3 + 3) c hm hl) = some (some (.int (nI k')), mj_hw (3 + 3) c hm' hl) := by
            rw [q207_9, if_pos (by decide), q207_19, if_pos (by decide), q207_29, if_neg (fun z => z rfl), y1', mj_bi_some, q207_38, q207_45]
          have e2' : mj_dc mj_P E (d + 99) 208 [.ref 205, .int (nI 3), .int (nI k')] (mj_hw (3 + 3) c hm1 hl) = some (none, mj_hw (3 + 3) c H2 hl) := e2
          rw [u1, k9, mj_bi_some, r4847 _ _ (nI_n1 (by omega)), ← hhm1, q209_81, if_pos (by decide), q209_93, e2', mj_bv_some, q209_99]
        · exact iv_ILaw_congr (fun j k z1 z2 _ => lw _ _ (by omega) (by omega) (by omega)) (fun a k z1 z2 z3 => up a k (by omega) (by omega) (fun z => by rcases (by omega : a = 217 ∨ a = 218 ∨ a = 219 ∨ a = 220) with rfl | rfl | rfl | rfl <;> (have z3' : k < 16 := z3; omega)) (fun z => by rcases (by omega : a = 221 ∨ a = 222) with rfl | rfl <;> (have z3' : k < 400 := z3; omega)) (by omega) (by omega) (by omega) (by omega) (by omega)) p1
        · exact iv_ISay_congr (fun j k z1 z2 _ => lw _ _ (by omega) (by omega) (by omega)) (up _ _ (by omega) (by omega) (by omega) (by omega) (by omega) (by omega) (by omega) (by omega) (by omega)) (fun k hk => up _ _ (by omega) (by omega) (by omega) (by omega) (by omega) (by omega) (by omega) (by omega) (by omega)) p2
        · exact iv_IPin_congr (Nat.le_refl _) (fun j k z1 z2 _ => lw _ _ (by omega) (by omega) (by omega)) (up _ _ (by omega) (by omega) (by omega) (by omega) (by omega) (by omega) (by omega) (by omega) (by omega)) (fun k hk => up _ _ (by omega) (by omega) (by omega) (by omega) (by omega) (by omega) (by omega) (by omega) (by omega)) p3
        · refine ⟨k', o3, (by show H2 30 0 = _; rw [lo _ _ (by omega), c1, ff _ _ (by omega), g0' _ _ (by omega), o4]), t3, fun i hi => ?_⟩
          obtain ⟨x, y', a1, a2, a3, a4, a5, a6, a7⟩ := y3 i hi
          have k0 : iv_wC 1 H2 30 i = g 170 i := (by show H2 31 i = _; rw [lo _ _ (by omega), show 31 = 30 + 1 + 0 from rfl, c2 0 i (by omega) (by omega), ff _ _ (by omega), g0' _ _ (by omega)])
          have k1 : iv_wC 1 H2 31 i = g 171 i := (by show H2 32 i = _; rw [lo _ _ (by omega), show 32 = 30 + 1 + 1 from rfl, c2 1 i (by omega) (by omega), ff _ _ (by omega), g0' _ _ (by omega)])
          have k2 : iv_wC 1 H2 32 i = g 172 i := (by show H2 33 i = _; rw [lo _ _ (by omega), show 33 = 30 + 1 + 2 from rfl, c2 2 i (by omega) (by omega), ff _ _ (by omega), g0' _ _ (by omega)])
          have m0 : H2 226 (3 * i) = hm' 226 (48 + 3 * i) := by rw [t1 _ (by omega), hhm1, mj_u_pt (by omega)]
          have m1 : H2 226 (3 * i + 1) = hm' 226 (48 + 3 * i + 1) := by rw [t1 _ (by omega), hhm1, mj_u_pt (by omega), show 48 + (3 * i + 1) = 48 + 3 * i + 1 by omega]
          have m2 : H2 226 (3 * i + 2) = hm' 226 (48 + 3 * i + 2) := by rw [t1 _ (by omega), hhm1, mj_u_pt (by omega), show 48 + (3 * i + 2) = 48 + 3 * i + 2 by omega]
          rw [k0, k1, k2, m0, m1, m2]
          exact ⟨x, y', a1, a2, a3, a4, a5, a6, a7⟩
        · rw [lo _ _ (by omega), c5 _ _ (by omega), ff _ _ (by omega)]; exact b3
        · rw [t4 _ _ (by omega) (by omega), hhm1, mj_u_eq]
        · rw [lo _ _ (by omega), c5 _ _ (by omega), ff _ _ (by omega), b4, t4 _ _ (by omega) (by omega), hhm1, mj_u_pt (by omega), y4 _ _ (by omega) (by omega) (by omega) (by omega) (by omega) (by omega) (by omega)]; exact u5.symm
        · rw [lo _ _ (by omega), c5 _ _ (by omega), ff _ _ (by omega), b5, t4 _ _ (by omega) (by omega), hhm1, mj_u_pt (by omega), y4 _ _ (by omega) (by omega) (by omega) (by omega) (by omega) (by omega) (by omega)]; exact u6.symm
  · -- no such text
    obtain ⟨H1, hH1⟩ : ∃ H1, H1 = mj_u h1 159 0 0 := ⟨_, rfl⟩
    have k147 : mj_dc mj_P E (d + 99) 147 [.int a, .int 3] (mj_hw w c h1 hl) = some (some (.int 0), mj_hw w c h1 hl) := by
      rw [e147, q147_0]
      by_cases h0 : a < 0
      · rw [if_pos h0, q147_13, q147_14, if_pos (Or.inl rfl)]
      · have h3 : (3 : Int32) < a := Int32.not_le.mp (fun z => hno ⟨Int32.not_lt.mp h0, z⟩)
        rw [if_neg h0, if_pos h3, q147_13, q147_14, if_pos (Or.inl rfl)]
    have k152 : ∀ h : mj_HI, mj_dc mj_P E (d + 99) 152 [.ref 205, .int a, .int 0, .int 3] (mj_hw w c h hl) = some (some (.int 0), mj_hw w c h hl) := fun h => by
      rw [e152, q152_0]
      by_cases h0 : a < 0
      · rw [if_pos h0, q152_14, q152_15, if_pos (Or.inl rfl)]
      · have h3 : (3 : Int32) < a := Int32.not_le.mp (fun z => hno ⟨Int32.not_lt.mp h0, z⟩)
        rw [if_neg h0, if_pos h3, q152_14, q152_15, if_pos (Or.inl rfl)]
    obtain ⟨H2, hH2⟩ : ∃ H2, H2 = mj_u (mj_u (mj_u (mj_u (mj_u (mj_u (mj_u H1 205 0 0) 205 34 0) 205 35 (-1)) 205 15 0) 205 28 0) 205 29 0) 205 14 0 := ⟨_, rfl⟩
    have fH : ∀ a z, a ≠ 159 → ¬ (a = 205 ∧ (z = 0 ∨ z = 34 ∨ z = 35 ∨ z = 15 ∨ z = 28 ∨ z = 29 ∨ z = 14)) → H2 a z = hi a z := fun a z z1 z2 => by rw [hH2, mj_u_pt (by omega), mj_u_pt (by omega), mj_u_pt (by omega), mj_u_pt (by omega), mj_u_pt (by omega), mj_u_pt (by omega), mj_u_pt (by omega), hH1, mj_u_pt (by omega), f1 _ _ (by omega)]
    have f159 : ∀ z, H2 159 z = H1 159 z := fun z => by rw [hH2, mj_u_pt (by omega), mj_u_pt (by omega), mj_u_pt (by omega), mj_u_pt (by omega), mj_u_pt (by omega), mj_u_pt (by omega), mj_u_pt (by omega)]
    refine ⟨-1, w, c, H1, hl, H2, ?_, ?_, iv_I_un.mpr ⟨n, l, iv_J_sameT q (fun a z hz => fH a z (by omega) (by omega)) (fun a z z0 z1 z2 z3 z4 z5 z6 z7 => fH a z (by omega) (by omega)) (rd0 _ _ ?_ ?_ ?_ ?_)⟩, hw⟩
    · show mj_dc mj_P E (d + 100) 117 [.ref 0, .int a] _ = _
      rw [e117, q117_0, ← hh1, k147, mj_bi_some, q117_21, if_pos rfl, q117_59, q117_60, if_neg (fun z => z rfl), ← hH1]
    · show mj_dc mj_P E (d + 100) 209 [.ref 205, .int a] _ = _
      rw [e209, q209_0, k152, mj_bi_some, q209_39, if_pos rfl, q209_69, if_neg (fun z => z rfl), ← hH2]
    · rw [f159, hH1, mj_u_eq]
    · rw [hH2, mj_u_eq]
    · rw [f159, hH1, mj_u_pt (by omega), hh1, mj_u_pt (by omega), mj_u_eq, hH2, mj_u_pt (by omega), mj_u_pt (by omega), mj_u_pt (by omega), mj_u_pt (by omega), mj_u_pt (by omega), mj_u_eq]
    · rw [f159, hH1, mj_u_pt (by omega), hh1, mj_u_eq, hH2, mj_u_pt (by omega), mj_u_pt (by omega), mj_u_pt (by omega), mj_u_pt (by omega), mj_u_eq]
