section MJZ18
variable {E : mj_E} {d d' w' c : Nat} {hl : Nat → Nat → Int64} {y TY TV BG : Nat → Nat} {t m : Nat}
def FL (BG : Nat → Nat) (h g : mj_HI) (f j : Nat) : Prop := fV h g ∧ g 159 1 = nI f ∧ g 159 2 = nI (BG j)
def GL (BG : Nat → Nat) (hm hm' : mj_HI) (f j : Nat) : Prop := gL hm hm' ∧ hm' 205 32 = nI f ∧ hm' 205 33 = nI (BG j)
theorem GL_t {a b g : mj_HI} {f j : Nat} (p : gL a b) (q : GL BG b g f j) : GL BG a g f j := ⟨gL_t p q.1, q.2⟩
theorem s_lawL {i L k : Nat} {h : mj_HI} (hG : txG 3 y t m TY TV BG) (hS : XS m TY TV BG i L h) (hcap : iv_ph (h 165) L ≤ i) (hk : k < 16) (h2 : TY i = 2) :
    (∃ f j g, mj_dc mj_P E (d + 31) 61 [.ref 159, .int (nI k)] (mj_hw w' c h hl) = some (some (.int 0), mj_hw w' c g hl) ∧ FL BG h g f j ∧ ∀ hm u2, MS 3 y t TY TV BG i L h hm → LR k L h hm → ∃ hm', mj_den mj_P E (d' + 9) 196 21 [.ref 205, .int (nI k), u2] [] (mj_hw w' c hm hl) = some (some (.int (-1)), mj_hw w' c hm' hl) ∧ GL BG hm hm' f j) ∨
    (∃ j L' g, mj_dc mj_P E (d + 31) 61 [.ref 159, .int (nI k)] (mj_hw w' c h hl) = some (some (.int 1), mj_hw w' c g hl) ∧ fL h g ∧ g 160 0 = nI (k + 1) ∧ XS m TY TV BG j L' g ∧ i ≤ j ∧ iv_ph (g 165) L' ≤ j ∧ ∀ hm u2, MS 3 y t TY TV BG i L h hm → LR k L h hm → ∃ hm' v2, mj_den mj_P E (d' + 9) 196 21 [.ref 205, .int (nI k), u2] [] (mj_hw w' c hm hl) = mj_den mj_P E (d' + 9) 196 108 [.ref 205, .int (nI k), .int v2] [.int (if TY j = 3 ∧ TV j = 59 then 1 else 0)] (mj_hw w' c hm' hl) ∧ MS 3 y t TY TV BG j L' g hm' ∧ LR (k + 1) L' g hm' ∧ gL hm hm') := by
  obtain ⟨_, t400, mt, _, hnz, hmz, htv⟩ := id hG
  have hilt : i < m := by
    rcases Nat.lt_or_ge i m with z | z
    · exact z
    · have hz : TY i = 0 := by rw [show i = m by have := hS.2.2.1; omega]; exact hmz
      omega
  have n16 : (0 ≤ nI k ∧ (nI k).toNatClampNeg < 16) := ⟨by rw [mj_nI0 (by omega)]; trivial, by rw [mj_nIc (by omega)]; exact hk⟩
  have e32 : (32 : Int32) + nI k = nI (32 + k) := mj_nIadd 32 k
  have n48 : (0 ≤ nI (32 + k) ∧ (nI (32 + k)).toNatClampNeg < 48) := ⟨by rw [mj_nI0 (by omega)]; trivial, by rw [mj_nIc (by omega)]; omega⟩
  have c16 : (nI k).toNatClampNeg = k := mj_nIc (by omega)
  have c48 : (nI (32 + k)).toNatClampNeg = 32 + k := mj_nIc (by omega)
  have htold : h 159 12 = nI (TV i) := hS.2.1.2.2.1 (by omega)
  obtain ⟨h0, hh0⟩ : ∃ h0, h0 = mj_u (mj_u h 161 k (h 159 12)) 162 k (h 160 1) := ⟨_, rfl⟩
  have S0 : XS m TY TV BG i L h0 := XS_c hS (fun a k z => by rw [hh0, mj_u_pt (by omega), mj_u_pt (by omega)])
  obtain ⟨h1, e1, S1, f1, fr1⟩ := p_stX (E := E) (d := d + 29) (w' := w') (c := c) (hl := hl) hG S0 hilt
  have b0 : ∀ a k', ¬ (161 ≤ a ∧ a ≤ 162 ∧ k' = k) → a ≠ 159 → h1 a k' = h a k' := fun a k' z1 z2 => by rw [fr1 a k' z2, hh0, mj_u_pt (by omega), mj_u_pt (by omega)]
  have b1 : bX h h1 L := fun k' _ => ⟨b0 _ _ (by omega) (by omega), b0 _ _ (by omega) (by omega)⟩
  have fl1 : fL h h1 := fL_t (fun a k' z1 z2 => by rw [hh0, mj_u_pt (by omega), mj_u_pt (by omega)]) (fX_L f1)
  have w1 : h1 161 k = nI (TV i) ∧ h1 162 k = nI L := ⟨by rw [fr1 _ _ (by omega), hh0, mj_u_pt (by omega), mj_u_eq]; exact htold, by rw [fr1 _ _ (by omega), hh0, mj_u_eq]; exact hS.2.2.2⟩
  have ph1 : iv_ph (h1 165) L = iv_ph (h 165) L := bX_ph b1 (Nat.le_refl _)
  have hc1 : mj_dc mj_P E (d + 31) 61 [.ref 159, .int (nI k)] (mj_hw w' c h hl) = mj_bi (mj_dc mj_P E (d + 30) 64 [.ref 159] (mj_hw w' c h1 hl)) (fun x1 h1 => mj_den mj_P E (d + 30) 61 37 [.ref 159, .int (nI k)] [.int x1] h1) := by
    rw [e61, q61_0, if_pos n16, if_pos n16, c16, ← hh0, e1, mj_bv_some, q61_33]
  have hr1 : ∀ hm u2, MS 3 y t TY TV BG i L h hm → ∃ hm1, mj_den mj_P E (d' + 9) 196 21 [.ref 205, .int (nI k), u2] [] (mj_hw w' c hm hl) = mj_bi (mj_dc mj_P E (d' + 9) 190 [.ref 205] (mj_hw w' c hm1 hl)) (fun x1 h1 => mj_den mj_P E (d' + 9) 196 54 [.ref 205, .int (nI k), .int (nI (32 + k))] [.int x1] h1) ∧ MS 3 y t TY TV BG (i + 1) L h1 hm1 ∧ gL hm hm1 ∧ hm1 217 (32 + k) = nI (TV i) ∧ hm1 218 (32 + k) = nI (iv_ph (h 165) L) ∧ (∀ a k', 217 ≤ a → a ≤ 220 → k' ≠ 32 + k → hm1 a k' = hm a k') ∧ hm1 205 29 = hm 205 29 := fun hm u2 q => by
    have v18 : hm 205 18 = nI (TV i) := by
      rcases q.2.1.2.2 with z | z | z | z | z
      · omega
      · omega
      · exact z.2.2.1
      · omega
      · omega
    obtain ⟨hma, hha⟩ : ∃ hma, hma = mj_u hm 217 (32 + k) (hm 205 18) := ⟨_, rfl⟩
    have qa : MS 3 y t TY TV BG i L h hma := MS_h q (fun a k' z => by rw [hha, mj_u_pt (by omega)])
    obtain ⟨hmb, eb, qb, fb, frb⟩ := p_stM (E := E) (d := d' + 5) (w' := w') (c := c) (hl := hl) hG qa hilt
    have eb' : mj_dc mj_P E (d' + 9) 182 [.ref 205] (mj_hw w' c hma hl) = some (none, mj_hw w' c hmb hl) := eb
    have v28 : hmb 205 28 = nI (iv_ph (h 165) L) := qb.2.2.1
    refine ⟨mj_u hmb 218 (32 + k) (hmb 205 28), ?_, MS_g (MS_h qb (fun a k' z => by rw [mj_u_pt (by omega)])) b1, fun a k' z1 z2 z3 z4 => ?_, ?_, by rw [mj_u_eq]; exact v28, fun a k' z1 z2 z3 => ?_, ?_⟩
    · rw [g196_21, e32, if_pos n48, c48, ← hha, eb', mj_bv_some, g196_40, if_pos n48, c48]
    · rw [mj_u_pt (by omega), fb a k' (by omega) z2, hha, mj_u_pt (by omega)]
    · rw [mj_u_pt (by omega), frb _ _ (by omega), hha, mj_u_eq]; exact v18
    · rw [mj_u_pt (by omega), frb _ _ (by omega), hha, mj_u_pt (by omega)]
    · rw [mj_u_pt (by omega), frb _ _ (by omega), hha, mj_u_pt (by omega)]
  rcases s_sum (E := E) (d := d + 27) (d' := d' + 2) (w' := w') (c := c) (hl := hl) (e := 0) hG S1 (by omega) with ⟨f, j, g, o1, o2, o3⟩ | ⟨j, L1, g, o1, o2, o3, o4, o5, o6, o7, o8, o9⟩
  · have o1' : mj_dc mj_P E (d + 30) 64 [.ref 159] (mj_hw w' c h1 hl) = some (some (.int 0), mj_hw w' c g hl) := o1
    refine Or.inl ⟨f, j, g, ?_, ⟨fV_t (fT_V (fL_T fl1)) (fW_V o2.1), o2.2.2⟩, fun hm u2 q hLR => ?_⟩
    · rw [hc1, o1', mj_bi_some, q61_37, if_neg (fun z => z rfl), if_pos (Or.inl rfl)]
    · obtain ⟨hm1, r1, r2, r3, _⟩ := hr1 hm u2 q
      obtain ⟨hm2, r4, r5⟩ := o3 hm1 r2
      have r4' : mj_dc mj_P E (d' + 9) 190 [.ref 205] (mj_hw w' c hm1 hl) = some (some (.int (-1)), mj_hw w' c hm2 hl) := r4
      exact ⟨hm2, by rw [r1, r4', mj_bi_some, g196_54, if_neg (fun z => z rfl)], gL_t r3 (fS_L r5.1), r5.2⟩
  · have o1' : mj_dc mj_P E (d + 30) 64 [.ref 159] (mj_hw w' c h1 hl) = some (some (.int 1), mj_hw w' c g hl) := o1
    obtain ⟨g1, hg1⟩ : ∃ g1, g1 = mj_u g 163 k (g 160 1) := ⟨_, rfl⟩
    have S2 : XS m TY TV BG j L1 g1 := XS_c o4 (fun a k z => by rw [hg1, mj_u_pt (by omega)])
    have bg : bX g g1 L1 := fun k' _ => ⟨by rw [hg1, mj_u_pt (by omega)], by rw [hg1, mj_u_pt (by omega)]⟩
    have phg : iv_ph (g1 165) L1 = iv_ph (g 165) L1 := bX_ph bg (Nat.le_refl _)
    have X3 : mj_dc mj_P E (d + 30) 57 [.ref 159, .int 3] (mj_hw w' c g1 hl) = some (some (.int (if TY j = 2 ∧ TV j = 3 then 1 else 0)), mj_hw w' c g1 hl) := s_wdX (d := d + 29) (x := 3) hG S2.2.2.1 S2.2.1 (by omega)
    have hc2 : mj_dc mj_P E (d + 31) 61 [.ref 159, .int (nI k)] (mj_hw w' c h hl) = mj_den mj_P E (d + 30) 61 63 [.ref 159, .int (nI k)] [.int (if TY j = 2 ∧ TV j = 3 then 1 else 0)] (mj_hw w' c g1 hl) := by
      rw [hc1, o1', mj_bi_some, q61_37, if_pos (by decide), q61_42, if_pos n16, c16, ← hg1, X3, mj_bi_some]
    have hr2 : ∀ hm u2, MS 3 y t TY TV BG i L h hm → hm 205 29 = 0 → ∃ hm2, mj_den mj_P E (d' + 9) 196 21 [.ref 205, .int (nI k), u2] [] (mj_hw w' c hm hl) = mj_den mj_P E (d' + 9) 196 75 [.ref 205, .int (nI k), .int (nI (32 + k))] [.int (if TY j = 2 ∧ TV j = 3 then 1 else 0)] (mj_hw w' c hm2 hl) ∧ MS 3 y t TY TV BG j L1 g1 hm2 ∧ gL hm hm2 ∧ hm2 217 (32 + k) = nI (TV i) ∧ hm2 218 (32 + k) = nI (iv_ph (h 165) L) ∧ hm2 219 (32 + k) = nI (iv_ph (g 165) L1) ∧ (∀ a k', 217 ≤ a → a ≤ 220 → k' ≠ 32 + k → hm2 a k' = hm a k') ∧ hm2 205 29 = 0 := fun hm u2 q h29 => by
      obtain ⟨hm1, r1, r2, r3, r31, r32, r33, r34⟩ := hr1 hm u2 q
      obtain ⟨hm2, r4, r5, r6⟩ := o9 hm1 r2
      have r4' : mj_dc mj_P E (d' + 9) 190 [.ref 205] (mj_hw w' c hm1 hl) = some (some (.int 0), mj_hw w' c hm2 hl) := r4
      have v28 : hm2 205 28 = nI (iv_ph (g 165) L1) := r6.2.2.1
      have q3 : MS 3 y t TY TV BG j L1 g1 (mj_u hm2 219 (32 + k) (hm2 205 28)) := MS_g (MS_h r6 (fun a k' z => by rw [mj_u_pt (by omega)])) bg
      have M3 : mj_dc mj_P E (d' + 9) 184 [.ref 205, .int 3] (mj_hw w' c (mj_u hm2 219 (32 + k) (hm2 205 28)) hl) = some (some (.int (if TY j = 2 ∧ TV j = 3 then 1 else 0)), mj_hw w' c (mj_u hm2 219 (32 + k) (hm2 205 28)) hl) := s_wdM (d := d' + 8) (x := 3) hG S2.2.2.1 q3.2.1 (by decide)
      refine ⟨mj_u hm2 219 (32 + k) (hm2 205 28), ?_, q3, gL_t r3 (gL_t (fS_L r5) (fun a k' z1 z2 z3 z4 => by rw [mj_u_pt (by omega)])), ?_, ?_, by rw [mj_u_eq]; exact v28, fun a k' z1 z2 z3 => ?_, ?_⟩
      · rw [r1, r4', mj_bi_some, g196_54, if_pos (by decide), g196_60, if_pos n48, c48, M3, mj_bi_some]
      · rw [mj_u_pt (by omega), r5 _ _ (by omega) (by omega)]; exact r31
      · rw [mj_u_pt (by omega), r5 _ _ (by omega) (by omega)]; exact r32
      · rw [mj_u_pt (by omega), r5 _ _ (by omega) (by omega)]; exact r33 a k' z1 z2 z3
      · rw [mj_u_pt (by omega), r5 _ _ (by omega) (by omega), r34]; exact h29
    have fl2 : fL h g1 := fL_t fl1 (fL_t (fX_L o2) (fun a k' z1 z2 => by rw [hg1, mj_u_pt (by omega)]))
    have w2 : g1 161 k = nI (TV i) ∧ g1 162 k = nI L ∧ g1 163 k = nI L1 ∧ ∀ a k', 161 ≤ a → a ≤ 164 → k' ≠ k → g1 a k' = h a k' := ⟨by rw [hg1, mj_u_pt (by omega), o2 _ _ (by omega) (by omega) (by omega) (by omega)]; exact w1.1, by rw [hg1, mj_u_pt (by omega), o2 _ _ (by omega) (by omega) (by omega) (by omega)]; exact w1.2, by rw [hg1, mj_u_eq]; exact o4.2.2.2, fun a k' z1 z2 z3 => by rw [hg1, mj_u_pt (by omega), o2 _ _ (by omega) (by omega) (by omega) (by omega), b0 _ _ (by omega) (by omega)]⟩
    rcases lw_when (E := E) (d := d) (d' := d') (w' := w') (c := c) (hl := hl) hG S2 (by omega) (nI k) (nI (32 + k)) with ⟨f, j', g', u1, u2, u3⟩ | ⟨j', L', g', u1, u2, u3, u4, u5, u6, u7, u8, u9⟩
    · refine Or.inl ⟨f, j', g', by rw [hc2, u1], ⟨fV_t (fT_V (fL_T fl2)) (fW_V u2.1), u2.2.2⟩, fun hm u2 q hLR => ?_⟩
      obtain ⟨hm2, r1, r2, r3, r31, r32, r33, r34, r35⟩ := hr2 hm u2 q hLR.1
      obtain ⟨hm3, r4, r5⟩ := u3 hm2 r2 r35
      exact ⟨hm3, by rw [r1, r4], gL_t r3 (fC_L r5.1), r5.2⟩
    · obtain ⟨gz, hgz⟩ : ∃ gz, gz = mj_u (mj_u g' 164 k (g' 160 1)) 160 0 (nI (k + 1)) := ⟨_, rfl⟩
      have Sz : XS m TY TV BG j' L' gz := XS_c u4 (fun a k z => by rw [hgz, mj_u_pt (by omega), mj_u_pt (by omega)])
      have bz : bX g' gz L' := fun k' _ => ⟨by rw [hgz, mj_u_pt (by omega), mj_u_pt (by omega)], by rw [hgz, mj_u_pt (by omega), mj_u_pt (by omega)]⟩
      have phz : iv_ph (gz 165) L' = iv_ph (g' 165) L' := bX_ph bz (Nat.le_refl _)
      have bgz : bX g gz L1 := bX_t bg (bX_t u3 bz u6) (Nat.le_refl _)
      have bhz : bX h gz L := bX_t b1 (bX_t o3 bgz o6) (Nat.le_refl _)
      refine Or.inr ⟨j', L', gz, ?_, fL_t fl2 (fL_t (fX_L u2) (fun a k' z1 z2 => by rw [hgz, mj_u_pt (by omega), mj_u_pt (by omega)])), by rw [hgz, mj_u_eq], Sz, by omega, by omega, fun hm v2 q hLR => ?_⟩
      · rw [hc2, u1, q61_81, if_pos n16, if_pos (Or.inr rfl), c16, mj_nIs, ← hgz]
      · obtain ⟨hm2, r1, r2, r3, r31, r32, r33, r34, r35⟩ := hr2 hm v2 q hLR.1
        obtain ⟨hm3, r4, r5, r6, r7⟩ := u9 hm2 r2 r35
        obtain ⟨hm4, hh4⟩ : ∃ hm4, hm4 = mj_u hm3 220 (32 + k) (hm3 205 28) := ⟨_, rfl⟩
        have q4 : MS 3 y t TY TV BG j' L' gz hm4 := MS_g (MS_h r5 (fun a k' z => by rw [hh4, mj_u_pt (by omega)])) bz
        have M59 : mj_dc mj_P E (d' + 9) 185 [.ref 205, .int 59] (mj_hw w' c hm4 hl) = some (some (.int (if TY j' = 3 ∧ TV j' = 59 then 1 else 0)), mj_hw w' c hm4 hl) := s_sgM (d := d' + 8) (x := 59) hG u4.2.2.1 q4.2.1 (by omega)
        have v28 : hm3 205 28 = nI (iv_ph (g' 165) L') := r5.2.2.1
        have kz : ∀ a k', 161 ≤ a → a ≤ 163 → gz a k' = g1 a k' := fun a k' z1 z2 => by rw [hgz, mj_u_pt (by omega), mj_u_pt (by omega), u2 _ _ (by omega) (by omega) (by omega) (by omega)]
        have kz4 : ∀ k', k' ≠ k → gz 164 k' = g1 164 k' := fun k' z => by rw [hgz, mj_u_pt (by omega), mj_u_pt (by omega), u2 _ _ (by omega) (by omega) (by omega) (by omega)]
        have mz : ∀ a k', 217 ≤ a → a ≤ 219 → hm4 a k' = hm2 a k' := fun a k' z1 z2 => by rw [hh4, mj_u_pt (by omega), r7 _ _ (by omega) (by omega) (by omega)]
        have mz4 : ∀ k', k' ≠ 32 + k → hm4 220 k' = hm2 220 k' := fun k' z => by rw [hh4, mj_u_pt (by omega), r7 _ _ (by omega) (by omega) (by omega)]
        refine ⟨hm4, _, by rw [r1, r4, g196_92, if_pos n48, c48, ← hh4, M59, mj_bi_some], q4, ⟨by rw [hh4, mj_u_pt (by omega)]; exact r6, fun i' hi' => ?_⟩, gL_t r3 (gL_t (fC_L r7) (fun a k' z1 z2 z3 z4 => by rw [hh4, mj_u_pt (by omega)]))⟩
        by_cases hik : i' = k
        · subst hik
          rw [kz _ _ (by omega) (by omega), kz _ _ (by omega) (by omega), kz _ _ (by omega) (by omega), mz _ _ (by omega) (by omega), mz _ _ (by omega) (by omega), mz _ _ (by omega) (by omega), w2.1, w2.2.1, w2.2.2.1, r31, r32, r33]
          refine ⟨rfl, L, L1, L', o6, u6, Nat.le_refl _, rfl, rfl, ?_, ?_, ?_, ?_, ?_, ?_⟩
          · rw [hgz, mj_u_pt (by omega), mj_u_eq]; exact u4.2.2.2
          · rw [bX_ph bhz (Nat.le_refl _)]
          · rw [bX_ph bgz (Nat.le_refl _)]
          · rw [hh4, mj_u_eq, phz]; exact v28
          · rw [iv_tys_congr (g := g 165) L _ [] (fun k' hk' => (bgz k' (by omega)).1)]; exact o8 [] (Nat.zero_le _)
          · rcases u8 with z | z
            · exact Or.inl z
            · exact Or.inr (by rw [iv_tys_congr (g := g' 165) L1 _ [] (fun k' hk' => (bz k' (by omega)).1)]; exact z)
        · rw [kz _ _ (by omega) (by omega), kz _ _ (by omega) (by omega), kz _ _ (by omega) (by omega), kz4 _ hik, mz _ _ (by omega) (by omega), mz _ _ (by omega) (by omega), mz _ _ (by omega) (by omega), mz4 _ (by omega), w2.2.2.2 _ _ (by omega) (by omega) hik, w2.2.2.2 _ _ (by omega) (by omega) hik, w2.2.2.2 _ _ (by omega) (by omega) hik, w2.2.2.2 _ _ (by omega) (by omega) hik, r34 _ _ (by omega) (by omega) (by omega), r34 _ _ (by omega) (by omega) (by omega), r34 _ _ (by omega) (by omega) (by omega), r34 _ _ (by omega) (by omega) (by omega)]
          exact RW_g (hLR.2 i' (by omega)) (by omega) (fun k' hk' => (bhz k' hk').1)
end MJZ18
