section MJZ7
variable {E : mj_E} {d w c : Nat} {hi : mj_HI} {hl : Nat → Nat → Int64}
theorem nI_inj {a b : Nat} (ha : a < 2147483648) (hb : b < 2147483648) (h : nI a = nI b) : a = b := by rw [mj_nIeq ha hb] at h; exact h
theorem nI_ne {a : Nat} (ha : a < 2147483648) : ¬ nI a = (-1 : Int32) := fun z => by
  have : (0 : Int32) ≤ nI a := by rw [mj_nI0 ha]; trivial
  rw [z] at this; exact absurd this (by decide)
/-- the reference reads a token -/
theorem s_reads {y : Nat → Nat} {t p b ty tv : Nat} (hw : 3 ≤ w ∧ w ≤ 6) {wt' : Nat} (ht : t ≤ 400) (hp : p ≤ t) (hb : b = lxB y t p) (h14 : hi 205 14 = nI t) (h15 : hi 205 15 = nI p) (hy : ∀ i, i < t → y i < 256 ∧ hi 214 i = nI (y i)) (h215 : ∀ k, k < 132 → hi 215 k = rV k) (hI : lxI y t w b ty tv) : ∃ g : mj_HI, mj_dc mj_P E (d + 4) 182 [.ref 205] (mj_hw wt' c hi hl) = some (none, mj_hw wt' c g hl) ∧ g 205 15 = nI (lxE y t b) ∧ g 205 16 = nI b ∧ rtk w ty tv (g 205 17) (g 205 18) ∧ ∀ a k, ¬ (a = 205 ∧ 15 ≤ k ∧ k ≤ 18) → g a k = hi a k := by
  obtain ⟨o1, o2, o3, o4⟩ := lx_ok (bW y) t _ p rfl
  have hb' : lx (bW y) t p = b := by rw [hb]; rfl
  rw [hb'] at o1 o2 o3 o4
  have hbt : b ≤ t := o2 hp
  have hy1 : ∀ i, i < t → y i < 256 := fun i hi' => (hy i hi').1
  -- over spaces
  have key := lp_ex (fun j (h : mj_HI) => mj_den mj_P E (d + 3) 182 0 [.ref 205, .float 0] [] (mj_hw wt' c h hl)) (fun j h => h 205 15 = nI (p + j) ∧ ∀ a k, ¬ (a = 205 ∧ k = 15) → h a k = hi a k) (b - p) (fun j h hj hI' => by
    obtain ⟨j1, j2⟩ := hI'
    have hr := s_raw (E := E) (d := d + 2) (w := wt') (c := c) (hi := h) (hl := hl) (y := y) (t := t) (p := p + j) ht (by omega) (by rw [j2 _ _ (by omega)]; exact h14) (fun i hi' => by rw [j2 _ _ (by omega)]; exact (hy i hi').2)
    have hpj : p + j < t := by omega
    rw [if_pos hpj] at hr
    have hws := of_decide_eq_true (o3 (p + j) (by omega) (by omega))
    have hyp := hy1 (p + j) hpj
    refine ⟨mj_u h 205 15 (nI (p + j + 1)), ?_, mj_u_eq, fun a k ha => by rw [mj_u_pt (by omega)]; exact j2 a k ha⟩
    show mj_den mj_P E (d + 3) 182 0 [.ref 205, .float 0] [] (mj_hw wt' c h hl) = mj_den mj_P E (d + 3) 182 0 [.ref 205, .float 0] [] (mj_hw wt' c (mj_u h 205 15 (nI (p + j + 1))) hl)
    rw [q182_0, j1, hr, mj_bi_some, q182_8]
    by_cases h32 : y (p + j) = 32
    · rw [if_pos (by rw [h32]; rfl), q182_26, j1, mj_nIs]
    · have h10 : y (p + j) = 10 := by omega
      have n32 : ¬ nI (y (p + j)) = 32 := by rw [show (32 : Int32) = nI 32 from rfl, mj_nIeq (by omega) (by omega)]; exact h32
      have n10 : ¬ ¬ nI (y (p + j)) = 10 := fun z => z (by rw [h10]; rfl)
      rw [if_neg n32, j1, hr, mj_bi_some, q182_21, if_neg n10, q182_26, j1, mj_nIs]) hi ⟨by rw [h15]; rfl, fun _ _ _ => rfl⟩
  obtain ⟨h1, e1, a1, a2⟩ := key
  rw [show p + (b - p) = b by omega] at a1
  have hr1 := s_raw (E := E) (d := d + 2) (w := wt') (c := c) (hi := h1) (hl := hl) (y := y) (t := t) (p := b) ht (by omega) (by rw [a2 _ _ (by omega)]; exact h14) (fun i hi' => by rw [a2 _ _ (by omega)]; exact (hy i hi').2)
  have e39 : mj_den mj_P E (d + 3) 182 0 [.ref 205, .float 0] [] (mj_hw wt' c h1 hl) = mj_den mj_P E (d + 3) 182 39 [.ref 205, .float 0] [] (mj_hw wt' c h1 hl) := by
    have n32 : ¬ (if b < t then nI (y b) else -1) = (32 : Int32) := by
      by_cases h : b < t
      · have hyp := hy1 b h
        rw [if_pos h, show (32 : Int32) = nI 32 from rfl, mj_nIeq (by omega) (by omega)]
        exact fun z => o4 ⟨h, decide_eq_true (Or.inl z)⟩
      · rw [if_neg h]; decide
    have n10 : ¬ (if b < t then nI (y b) else -1) = (10 : Int32) := by
      by_cases h : b < t
      · have hyp := hy1 b h
        rw [if_pos h, show (10 : Int32) = nI 10 from rfl, mj_nIeq (by omega) (by omega)]
        exact fun z => o4 ⟨h, decide_eq_true (Or.inr z)⟩
      · rw [if_neg h]; decide
    rw [q182_0, a1, hr1, mj_bi_some, q182_8, if_neg n32, a1, hr1, mj_bi_some, q182_21, if_pos n10]
  obtain ⟨h2, hh2⟩ : ∃ h2, h2 = mj_u (mj_u h1 205 16 (nI b)) 205 17 1 := ⟨_, rfl⟩
  have b15 : h2 205 15 = nI b := by rw [hh2, mj_u_pt (by omega), mj_u_pt (by omega)]; exact a1
  have b16 : h2 205 16 = nI b := by rw [hh2, mj_u_pt (by omega), mj_u_eq]
  have b17 : h2 205 17 = 1 := by rw [hh2, mj_u_eq]
  have bfr : ∀ a k, ¬ (a = 205 ∧ 15 ≤ k ∧ k ≤ 18) → h2 a k = hi a k := fun a k ha => by rw [hh2, mj_u_pt (by omega), mj_u_pt (by omega)]; exact a2 a k (by omega)
  have hraw : ∀ (h : mj_HI) q, (∀ a k, ¬ (a = 205 ∧ 15 ≤ k ∧ k ≤ 18) → h a k = hi a k) → q ≤ 400 → mj_dc mj_P E (d + 3) 177 [.ref 205, .int (nI q)] (mj_hw wt' c h hl) = some (some (.int (if q < t then nI (y q) else -1)), mj_hw wt' c h hl) := fun h q hf hq => s_raw (d := d + 2) ht hq (by rw [hf _ _ (by omega)]; exact h14) (fun i hi' => by rw [hf _ _ (by omega)]; exact (hy i hi').2)
  have e60 : mj_dc mj_P E (d + 4) 182 [.ref 205] (mj_hw wt' c hi hl) = mj_den mj_P E (d + 3) 182 60 [.ref 205, .float 0] [.int (if b < t then nI (y b) else -1)] (mj_hw wt' c h2 hl) := by
    rw [e182, show mj_den mj_P E (d + 3) 182 0 [.ref 205, .float 0] [] (mj_hw wt' c hi hl) = _ from e1, e39, q182_39, a1, ← hh2, hraw h2 b bfr (by omega), mj_bi_some]
  by_cases hbt2 : b < t
  · have hyb := hy1 b hbt2
    obtain ⟨x1, x2, x3, x4⟩ := lxE_ok (y := y) hbt2
    rw [if_pos hbt2] at e60
    obtain ⟨h3, hh3⟩ : ∃ h3, h3 = mj_u (mj_u h2 205 15 (nI (b + 1))) 205 18 (nI (y b)) := ⟨_, rfl⟩
    have c15 : h3 205 15 = nI (b + 1) := by rw [hh3, mj_u_pt (by omega), mj_u_eq]
    have c16 : h3 205 16 = nI b := by rw [hh3, mj_u_pt (by omega), mj_u_pt (by omega)]; exact b16
    have c17 : h3 205 17 = 1 := by rw [hh3, mj_u_pt (by omega), mj_u_pt (by omega)]; exact b17
    have c18 : h3 205 18 = nI (y b) := by rw [hh3, mj_u_eq]
    have cfr : ∀ a k, ¬ (a = 205 ∧ 15 ≤ k ∧ k ≤ 18) → h3 a k = hi a k := fun a k ha => by rw [hh3, mj_u_pt (by omega), mj_u_pt (by omega)]; exact bfr a k ha
    have eLb := s_letM (E := E) (d := d + 1) (w := wt') (c := c) (hi := h3) (hl := hl) (y := y) (t := t) (p := b) hy1
    rw [if_pos hbt2] at eLb
    have e92 : mj_dc mj_P E (d + 4) 182 [.ref 205] (mj_hw wt' c hi hl) = mj_den mj_P E (d + 3) 182 92 [.ref 205, .int (nI (y b))] [.int (if b < t ∧ bL y b = true then 1 else 0)] (mj_hw wt' c h3 hl) := by
      rw [e60, q182_60, if_pos (nI_ne (by omega)), q182_72, b15, mj_nIs, ← hh3, eLb, mj_bi_some]
    by_cases hL : bL y b = true
    · rw [if_pos ⟨hbt2, hL⟩] at e92
      have hEl : lxE y t b = lx (bL y) t (b + 1) := by unfold lxE; rw [if_neg (by omega), if_pos hL]
      have key2 := lp_ex (fun j (h : mj_HI) => mj_den mj_P E (d + 3) 182 95 [.ref 205, .int (nI (y b))] [] (mj_hw wt' c h hl)) (fun j h => h 205 15 = nI (b + 1 + j) ∧ h 205 16 = nI b ∧ h 205 17 = 1 ∧ ∀ a k, ¬ (a = 205 ∧ 15 ≤ k ∧ k ≤ 18) → h a k = hi a k) (lxE y t b - (b + 1)) (fun j h hj hI' => by
        obtain ⟨j1, j2, j3, j4⟩ := hI'
        have hq : b + 1 + j < t := by omega
        have hr := hraw h (b + 1 + j) j4 (by omega)
        have eLq := s_letM (E := E) (d := d + 1) (w := wt') (c := c) (hi := h) (hl := hl) (y := y) (t := t) (p := b + 1 + j) hy1
        rw [if_pos hq, if_pos (show b + 1 + j < t ∧ bL y (b + 1 + j) = true from ⟨hq, x3 hL (b + 1 + j) (by omega) (by omega)⟩)] at eLq
        rw [if_pos hq] at hr
        refine ⟨mj_u h 205 15 (nI (b + 1 + j + 1)), ?_, mj_u_eq, by rw [mj_u_pt (by omega)]; exact j2, by rw [mj_u_pt (by omega)]; exact j3, fun a k ha => by rw [mj_u_pt (by omega)]; exact j4 a k ha⟩
        show mj_den mj_P E (d + 3) 182 95 [.ref 205, .int (nI (y b))] [] (mj_hw wt' c h hl) = mj_den mj_P E (d + 3) 182 95 [.ref 205, .int (nI (y b))] [] (mj_hw wt' c (mj_u h 205 15 (nI (b + 1 + j + 1))) hl)
        rw [q182_95, j1, hr, mj_bi_some, q182_104, eLq, mj_bi_some, q182_107, if_neg (by decide), j1, mj_nIs]) h3 ⟨c15, c16, c17, cfr⟩
      obtain ⟨h4, e4, d1, d2, d3, d4⟩ := key2
      rw [show b + 1 + (lxE y t b - (b + 1)) = lxE y t b by omega] at d1
      have hr4 := hraw h4 (lxE y t b) d4 (by omega)
      have eLq := s_letM (E := E) (d := d + 1) (w := wt') (c := c) (hi := h4) (hl := hl) (y := y) (t := t) (p := lxE y t b) hy1
      have hnl : ¬ (lxE y t b < t ∧ bL y (lxE y t b) = true) := by rw [hEl]; exact (lx_ok (bL y) t _ (b + 1) rfl).2.2.2
      rw [if_neg hnl] at eLq
      obtain ⟨u, eu, hu⟩ := s_wd (E := E) (d := d + 2) (w := wt') (c := c) (hi := h4) (hl := hl) (a := b) (b := lxE y t b) (Y := fun q => nI (y q)) x1 (by omega) (fun q q1 q2 => by rw [d4 _ _ (by omega)]; exact (hy q (by omega)).2) (fun q q1 q2 => by
        have := of_decide_eq_true (x3 hL q q1 q2)
        have hq2 := hy1 q (by omega)
        show ¬ nI (y q) = 32
        rw [show (32 : Int32) = nI 32 from rfl, mj_nIeq (by omega) (by omega)]; omega) (fun k hk => by rw [d4 _ _ (by omega)]; exact h215 k hk)
      have eall : mj_dc mj_P E (d + 4) 182 [.ref 205] (mj_hw wt' c hi hl) = mj_den mj_P E (d + 3) 182 136 [.ref 205, .int (nI (y b))] [.int u, .ref 205] (mj_hw wt' c h4 hl) := by
        rw [e92, q182_92, if_neg (by decide), show mj_den mj_P E (d + 3) 182 95 [.ref 205, .int (nI (y b))] [] (mj_hw wt' c h3 hl) = _ from e4, q182_95, d1, hr4, mj_bi_some, q182_104, eLq, mj_bi_some, q182_107, if_pos rfl, q182_123, d1, d2, eu, mj_bi_some]
      -- what the class has
      have hcls : ∃ v : Int32, ((ty = 2 ∧ tv < kN w ∧ v = nI tv) ∨ (ty = 4 ∧ v = -1)) ∧ ((∃ j, j < kN w ∧ v = nI j ∧ kE (fun q => nI (y q)) b (lxE y t b) w j) ∨ (v = -1 ∧ ∀ j, j < kN w → ¬ kE (fun q => nI (y q)) b (lxE y t b) w j)) := by
        rcases hI with ⟨z, _⟩ | ⟨_, _, ⟨z1, z2, z3⟩ | ⟨z1, z2⟩⟩ | ⟨_, z, _⟩ | ⟨_, z, _⟩
        · omega
        · exact ⟨nI tv, Or.inl ⟨z1, z2, rfl⟩, Or.inl ⟨tv, z2, rfl, z3⟩⟩
        · exact ⟨-1, Or.inr ⟨z1, rfl⟩, Or.inr ⟨rfl, z2⟩⟩
        · rw [hL] at z; cases z
        · rw [hL] at z; cases z
      obtain ⟨v, hv1, hv2⟩ := hcls
      have hkn := (kl hw).2.1
      rcases k_rel hw hv2 hu with ⟨j, j1, j2, j3⟩ | ⟨v1, v2⟩
      · have hty : ty = 2 ∧ tv = j := by
          rcases hv1 with ⟨z1, z2, z3⟩ | ⟨z1, z2⟩
          · exact ⟨z1, nI_inj (by omega) (by omega) (by rw [← z3, j2])⟩
          · rw [z2] at j2; exact absurd j2.symm (nI_ne (by omega))
        have hk25 := (kr hw j j1).1
        refine ⟨mj_u (mj_u h4 205 18 u) 205 17 2, ?_, by rw [mj_u_pt (by omega), mj_u_pt (by omega)]; exact d1, by rw [mj_u_pt (by omega), mj_u_pt (by omega)]; exact d2, Or.inr (Or.inr (Or.inl ⟨hty.1, mj_u_eq, by rw [mj_u_pt (by omega), mj_u_eq, j3, hty.2], by rw [hty.2]; exact j1⟩)), fun a k ha => by rw [mj_u_pt (by omega), mj_u_pt (by omega)]; exact d4 a k ha⟩
        rw [eall, q182_136, if_neg (by rw [j3]; exact nI_ne (by omega)), q182_273]
      · have hty : ty = 4 := by
          rcases hv1 with ⟨z1, z2, z3⟩ | ⟨z1, z2⟩
          · rw [z3] at v1; exact absurd v1 (nI_ne (by omega))
          · exact z1
        rcases v2 with u1 | ⟨x, ux, u2, u3⟩
        · refine ⟨mj_u h4 205 18 u, ?_, by rw [mj_u_pt (by omega)]; exact d1, by rw [mj_u_pt (by omega)]; exact d2, Or.inr (Or.inr (Or.inr (Or.inr ⟨hty, Or.inl (by rw [mj_u_pt (by omega)]; exact d3)⟩))), fun a k ha => by rw [mj_u_pt (by omega)]; exact d4 a k ha⟩
          rw [eall, q182_136, if_pos u1, q182_273]
        · refine ⟨mj_u (mj_u h4 205 18 u) 205 17 2, ?_, by rw [mj_u_pt (by omega), mj_u_pt (by omega)]; exact d1, by rw [mj_u_pt (by omega), mj_u_pt (by omega)]; exact d2, Or.inr (Or.inr (Or.inr (Or.inr ⟨hty, Or.inr ⟨mj_u_eq, x, ux, by rw [mj_u_pt (by omega), mj_u_eq, u2], u3⟩⟩))), fun a k ha => by rw [mj_u_pt (by omega), mj_u_pt (by omega)]; exact d4 a k ha⟩
          rw [eall, q182_136, if_neg (by rw [u2]; exact nI_ne (by omega)), q182_273]
    · have hL2 : bL y b = false := by simpa using hL
      rw [if_neg (fun z => hL z.2)] at e92
      have eGb := s_digM (E := E) (d := d + 1) (w := wt') (c := c) (hi := h3) (hl := hl) (y := y) (t := t) (p := b) hy1
      rw [if_pos hbt2] at eGb
      have e160 : mj_dc mj_P E (d + 4) 182 [.ref 205] (mj_hw wt' c hi hl) = mj_den mj_P E (d + 3) 182 160 [.ref 205, .int (nI (y b))] [.int (if b < t ∧ bG y b = true then 1 else 0)] (mj_hw wt' c h3 hl) := by
        rw [e92, q182_92, if_pos rfl, q182_155, eGb, mj_bi_some]
      by_cases hG : bG y b = true
      · rw [if_pos ⟨hbt2, hG⟩] at e160
        have hEl : lxE y t b = lx (bG y) t (b + 1) := by unfold lxE; rw [if_neg (by omega), if_neg hL, if_pos hG]
        have hgd : ∀ q, b ≤ q → q < lxE y t b → 48 ≤ y q ∧ y q ≤ 57 := fun q q1 q2 => of_decide_eq_true (x4 hL2 hG q q1 q2)
        have hb1 := hgd b (Nat.le_refl _) x1
        have hs0 : nI (y b) - 48 = nI (nmb y b 1) := by
          rw [show (48 : Int32) = nI 48 from rfl, mj_nIsub (by omega)]
          show nI (y b - 48) = nI (0 * 10 + (y (b + 0) - 48))
          rw [Nat.zero_mul, Nat.zero_add, Nat.add_zero]
        have key2 := lp_ex (fun j (h : mj_HI) => mj_den mj_P E (d + 3) 182 171 [.ref 205, .int (nI (y b))] [] (mj_hw wt' c h hl)) (fun j h => h 205 15 = nI (b + 1 + j) ∧ h 205 16 = nI b ∧ h 205 17 = 1 ∧ (1 + j ≤ 4 → h 205 18 = nI (nmb y b (1 + j))) ∧ ∀ a k, ¬ (a = 205 ∧ 15 ≤ k ∧ k ≤ 18) → h a k = hi a k) (lxE y t b - (b + 1)) (fun j h hj hI' => by
          obtain ⟨j1, j2, j3, j5, j4⟩ := hI'
          have hq : b + 1 + j < t := by omega
          have hr := hraw h (b + 1 + j) j4 (by omega)
          have eGq := s_digM (E := E) (d := d + 1) (w := wt') (c := c) (hi := h) (hl := hl) (y := y) (t := t) (p := b + 1 + j) hy1
          rw [if_pos hq, if_pos (show b + 1 + j < t ∧ bG y (b + 1 + j) = true from ⟨hq, x4 hL2 hG (b + 1 + j) (by omega) (by omega)⟩)] at eGq
          have hgq := hgd (b + 1 + j) (by omega) (by omega)
          rw [if_pos hq] at hr
          have hfin : ∀ v : Int32, (1 + (j + 1) ≤ 4 → v = nI (nmb y b (1 + (j + 1)))) → mj_den mj_P E (d + 3) 182 171 [.ref 205, .int (nI (y b))] [] (mj_hw wt' c h hl) = mj_den mj_P E (d + 3) 182 223 [.ref 205, .int (nI (y b))] [.int v, .ref 205] (mj_hw wt' c h hl) → ∃ h' : mj_HI, mj_den mj_P E (d + 3) 182 171 [.ref 205, .int (nI (y b))] [] (mj_hw wt' c h hl) = mj_den mj_P E (d + 3) 182 171 [.ref 205, .int (nI (y b))] [] (mj_hw wt' c h' hl) ∧ h' 205 15 = nI (b + 1 + (j + 1)) ∧ h' 205 16 = nI b ∧ h' 205 17 = 1 ∧ (1 + (j + 1) ≤ 4 → h' 205 18 = nI (nmb y b (1 + (j + 1)))) ∧ ∀ a k, ¬ (a = 205 ∧ 15 ≤ k ∧ k ≤ 18) → h' a k = hi a k := fun v hv he => by
            refine ⟨mj_u (mj_u h 205 18 v) 205 15 (nI (b + 1 + j + 1)), ?_, mj_u_eq, by rw [mj_u_pt (by omega), mj_u_pt (by omega)]; exact j2, by rw [mj_u_pt (by omega), mj_u_pt (by omega)]; exact j3, fun hle => by rw [mj_u_pt (by omega), mj_u_eq]; exact hv hle, fun a k ha => by rw [mj_u_pt (by omega), mj_u_pt (by omega)]; exact j4 a k ha⟩
            rw [he, q182_223, j1, mj_nIs]
          have e183 : mj_den mj_P E (d + 3) 182 171 [.ref 205, .int (nI (y b))] [] (mj_hw wt' c h hl) = mj_den mj_P E (d + 3) 182 183 [.ref 205, .int (nI (y b))] [.int 1] (mj_hw wt' c h hl) := by rw [q182_171, j1, hr, mj_bi_some, q182_180, eGq, mj_bi_some]
          by_cases hcap : (10000 : Int32) ≤ h 205 18
          · refine hfin (h 205 18) (fun hle => ?_) (by rw [e183, q182_183, if_neg (by decide), if_pos hcap, q182_219])
            exfalso
            have h5 := j5 (by omega)
            have hbd := nmb_bd (y := y) (b := b) (1 + j) (fun q hq' => (hgd (b + q) (by omega) (by omega)).2)
            have hp10 : 10 ^ (1 + j) ≤ 10 ^ 3 := Nat.pow_le_pow_right (by omega) (by omega)
            rw [h5, show (10000 : Int32) = nI 10000 from rfl, mj_nIle (by omega) (by omega)] at hcap
            omega
          · refine hfin (10 * h 205 18 + nI (y (b + 1 + j)) - 48) (fun hle => ?_) (by rw [e183, q182_183, if_neg (by decide), if_neg hcap, j1, hr, mj_bi_some, q182_212])
            rw [j5 (by omega), show (10 : Int32) = nI 10 from rfl, show (48 : Int32) = nI 48 from rfl, mj_nImul, mj_nIadd, mj_nIsub (by omega)]
            show _ = nI (nmb y b (1 + j) * 10 + (y (b + (1 + j)) - 48))
            rw [show b + (1 + j) = b + 1 + j by omega]; congr 1; omega) (mj_u h3 205 18 (nI (nmb y b 1))) ⟨by rw [mj_u_pt (by omega)]; exact c15, by rw [mj_u_pt (by omega)]; exact c16, by rw [mj_u_pt (by omega)]; exact c17, fun _ => mj_u_eq, fun a k ha => by rw [mj_u_pt (by omega)]; exact cfr a k ha⟩
        obtain ⟨h4, e4, d1, d2, d3, d5, d4⟩ := key2
        rw [show b + 1 + (lxE y t b - (b + 1)) = lxE y t b by omega] at d1
        rw [show 1 + (lxE y t b - (b + 1)) = lxE y t b - b by omega] at d5
        have hr4 := hraw h4 (lxE y t b) d4 (by omega)
        have eGq := s_digM (E := E) (d := d + 1) (w := wt') (c := c) (hi := h4) (hl := hl) (y := y) (t := t) (p := lxE y t b) hy1
        have hnl : ¬ (lxE y t b < t ∧ bG y (lxE y t b) = true) := by rw [hEl]; exact (lx_ok (bG y) t _ (b + 1) rfl).2.2.2
        rw [if_neg hnl] at eGq
        have eall : mj_dc mj_P E (d + 4) 182 [.ref 205] (mj_hw wt' c hi hl) = mj_den mj_P E (d + 3) 182 239 [.ref 205, .int (nI (y b))] [] (mj_hw wt' c h4 hl) := by
          rw [e160, q182_160, if_neg (by decide), hs0, show mj_den mj_P E (d + 3) 182 171 [.ref 205, .int (nI (y b))] [] (mj_hw wt' c (mj_u h3 205 18 (nI (nmb y b 1))) hl) = _ from e4, q182_171, d1, hr4, mj_bi_some, q182_180, eGq, mj_bi_some, q182_183, if_pos rfl]
        have e5 : nI (lxE y t b) - nI b = nI (lxE y t b - b) := mj_nIsub (by omega)
        rcases hI with ⟨z, _⟩ | ⟨_, z, _⟩ | ⟨_, _, _, ⟨z1, z2, z3⟩ | ⟨z1, z2⟩⟩ | ⟨_, _, z, _⟩
        · omega
        · exact absurd z hL
        · have hbd := nmb_bd (y := y) (b := b) (lxE y t b - b) (fun q hq' => (hgd (b + q) (by omega) (by omega)).2)
          have hp10 : 10 ^ (lxE y t b - b) ≤ 10 ^ 4 := Nat.pow_le_pow_right (by omega) (by omega)
          refine ⟨mj_u h4 205 17 3, ?_, by rw [mj_u_pt (by omega)]; exact d1, by rw [mj_u_pt (by omega)]; exact d2, Or.inr (Or.inl ⟨z1, mj_u_eq, by rw [mj_u_pt (by omega), z3]; exact d5 z2, by rw [z3]; omega⟩), fun a k ha => by rw [mj_u_pt (by omega)]; exact d4 a k ha⟩
          rw [eall, q182_239, d1, d2, e5, if_neg (by rw [show (5 : Int32) = nI 5 from rfl, mj_nIle (by omega) (by omega)]; omega), q182_273]
        · refine ⟨h4, ?_, d1, d2, Or.inr (Or.inr (Or.inr (Or.inr ⟨z1, Or.inl d3⟩))), d4⟩
          rw [eall, q182_239, d1, d2, e5, if_pos (by rw [show (5 : Int32) = nI 5 from rfl, mj_nIle (by omega) (by omega)]; omega), q182_273]
        · rw [hG] at z; cases z
      · have hG2 : bG y b = false := by simpa using hG
        rw [if_neg (fun z => hG z.2)] at e160
        have hEl : lxE y t b = b + 1 := by unfold lxE; rw [if_neg (by omega), if_neg hL, if_neg hG]
        have eS := s_signM (E := E) (d := d + 2) (w := wt') (c := c) (hi := h3) (hl := hl) hyb
        rcases hI with ⟨z, _⟩ | ⟨_, z, _⟩ | ⟨_, _, z, _⟩ | ⟨_, _, _, ⟨z1, z2, z3⟩ | ⟨z1, z2⟩⟩
        · omega
        · exact absurd z hL
        · exact absurd z hG
        · rw [if_pos z2] at eS
          refine ⟨mj_u h3 205 17 4, ?_, by rw [mj_u_pt (by omega), hEl]; exact c15, by rw [mj_u_pt (by omega)]; exact c16, Or.inr (Or.inr (Or.inr (Or.inl ⟨z1, mj_u_eq, by rw [mj_u_pt (by omega), z3]; exact c18, by rw [z3]; exact hyb⟩))), fun a k ha => by rw [mj_u_pt (by omega)]; exact cfr a k ha⟩
          rw [e160, q182_160, if_pos rfl, q182_260, eS, mj_bi_some, q182_265, if_neg (by decide), q182_273]
        · rw [if_neg z2] at eS
          refine ⟨h3, ?_, by rw [hEl]; exact c15, c16, Or.inr (Or.inr (Or.inr (Or.inr ⟨z1, Or.inl c17⟩))), cfr⟩
          rw [e160, q182_160, if_pos rfl, q182_260, eS, mj_bi_some, q182_265, if_pos rfl, q182_273]
  · rw [if_neg hbt2] at e60
    have hbe : b = t := by omega
    have hEl : lxE y t b = b := by unfold lxE; rw [if_pos (by omega), hbe]
    have hty : ty = 0 := by
      rcases hI with ⟨_, z, _⟩ | ⟨z, _⟩ | ⟨z, _⟩ | ⟨z, _⟩
      · exact z
      all_goals omega
    refine ⟨mj_u h2 205 17 0, ?_, by rw [mj_u_pt (by omega), hEl]; exact b15, by rw [mj_u_pt (by omega)]; exact b16, Or.inl ⟨hty, mj_u_eq⟩, fun a k ha => by rw [mj_u_pt (by omega)]; exact bfr a k ha⟩
    rw [e60, q182_60, if_neg (fun z => z rfl)]
end MJZ7
