/-! the sale -/
def QL (n l k : Nat) (g hm : mj_HI) : Prop := ∀ i, i < k → ∃ x y, x ≤ 2 ∧ g 170 i = nI x ∧ hm 226 (48 + 3 * i) = nI x ∧ g 171 i = nI y ∧ hm 226 (48 + 3 * i + 1) = nI y ∧ y < (if x = 0 then l else n) ∧ ((g 172 i = -1 ∧ hm 226 (48 + 3 * i + 2) = 0) ∨ (x = 0 ∧ g 172 i = 3 ∧ hm 226 (48 + 3 * i + 2) = 1) ∨ (x = 0 ∧ g 172 i = 4 ∧ hm 226 (48 + 3 * i + 2) = 2))
section MJZ26
variable {E : mj_E} {d d' w w' c : Nat} {hl : Nat → Nat → Int64} {y TY TV BG : Nat → Nat} {t m n l : Nat}
theorem s_saleL {i L k : Nat} {h : mj_HI} (hn10 : n ≤ 10) (hl12 : l ≤ 12) (hG : txG 6 y t m TY TV BG) (hS : XS m TY TV BG i L h) (hcap : iv_ph (h 165) L ≤ i) (hk : k < 16) (h2 : TY i = 2) (hv : TV i ≤ 2) (h0 : h 169 0 = nI k) (h7 : h 159 7 = nI n) (h8 : h 159 8 = nI l) :
    (∃ f j g, mj_dc mj_P E (d + 31) 68 [.ref 159] (mj_hw w' c h hl) = some (some (.int 0), mj_hw w' c g hl) ∧ FT BG h g f j ∧ ∀ hm, MS 6 y t TY TV BG i L h hm → QL n l k h hm → hm 205 6 = nI n → hm 205 7 = nI l → ∃ hm', mj_dc mj_P E (d' + 9) 205 [.ref 205, .int (nI (48 + 3 * k))] (mj_hw w' c hm hl) = some (some (.int (-1)), mj_hw w' c hm' hl) ∧ GT BG hm hm' f j) ∨
    (∃ j g, mj_dc mj_P E (d + 31) 68 [.ref 159] (mj_hw w' c h hl) = some (some (.int 1), mj_hw w' c g hl) ∧ fT h g ∧ g 169 0 = nI (k + 1) ∧ XS m TY TV BG j L g ∧ iv_ph (g 165) L ≤ j ∧ ∀ hm, MS 6 y t TY TV BG i L h hm → QL n l k h hm → hm 205 6 = nI n → hm 205 7 = nI l →
        ((TY j = 3 ∧ TV j = 59 → ∃ hm', mj_dc mj_P E (d' + 9) 205 [.ref 205, .int (nI (48 + 3 * k))] (mj_hw w' c hm hl) = some (some (.int 0), mj_hw w' c hm' hl) ∧ MS 6 y t TY TV BG (j + 1) L g hm' ∧ QL n l (k + 1) g hm' ∧ gT hm hm') ∧
         (¬ (TY j = 3 ∧ TV j = 59) → ∃ hm', mj_dc mj_P E (d' + 9) 205 [.ref 205, .int (nI (48 + 3 * k))] (mj_hw w' c hm hl) = some (some (.int (-1)), mj_hw w' c hm' hl) ∧ GT BG hm hm' 1 j))) := by
  have hilt := tx_lt hG hS.2.2.1 (show TY i ≠ 0 by omega)
  have c96 : ∀ r, r ≤ 2 → (0 ≤ nI (48 + 3 * k + r) ∧ (nI (48 + 3 * k + r)).toNatClampNeg < 96) := fun r hr => ⟨by rw [mj_nI0 (by omega)]; trivial, by rw [mj_nIc (by omega)]; omega⟩
  have c960 : (0 ≤ nI (48 + 3 * k) ∧ (nI (48 + 3 * k)).toNatClampNeg < 96) := c96 0 (by omega)
  have cc : ∀ r, r ≤ 2 → (nI (48 + 3 * k + r)).toNatClampNeg = 48 + 3 * k + r := fun r hr => mj_nIc (by omega)
  have e2' : nI (48 + 3 * k) + (2 : Int32) = nI (48 + 3 * k + 2) := mj_nIadd _ 2
  obtain ⟨h1, e1, S1, f1, fr1⟩ := p_stX (E := E) (d := d + 29) (w' := w') (c := c) (hl := hl) hG hS hilt
  have h71 : h1 159 7 = nI n := by rw [f1 _ _ (by omega) (by omega) (by omega) (by omega)]; exact h7
  have h81 : h1 159 8 = nI l := by rw [f1 _ _ (by omega) (by omega) (by omega) (by omega)]; exact h8
  have k0 : h 159 12 = nI (TV i) := hS.2.1.2.2.1 (by omega)
  have n0 : nI (TV i) = (0 : Int32) ↔ TV i = 0 := by rw [show (0 : Int32) = nI 0 from rfl, mj_nIeq (by omega) (by omega)]
  obtain ⟨B, hB, hB12⟩ : ∃ B, B = (if TV i = 0 then l else n) ∧ B ≤ 12 := ⟨_, rfl, by split <;> omega⟩
  have hc1 : mj_dc mj_P E (d + 31) 68 [.ref 159] (mj_hw w' c h hl) = mj_bi (mj_dc mj_P E (d + 30) 60 [.ref 159, .int (nI 0), .int (nI B - 1)] (mj_hw w' c h1 hl)) (fun x1 h2 => mj_den mj_P E (d + 30) 68 38 [.ref 159, .int (nI (TV i)), .int (h1 159 12), .float 0] [.int x1] h2) := by
    rw [e68, q68_0, e1, mj_bv_some, k0, q68_9]
    by_cases hz : TV i = 0
    · rw [if_neg (fun z => z (n0.mpr hz)), q68_35, h81, hB, if_pos hz]; rfl
    · rw [if_pos (fun z => hz (n0.mp z)), q68_29, q68_35, h71, hB, if_neg hz]; rfl
  -- the reference up to its number
  have hr1 : ∀ hm, MS 6 y t TY TV BG i L h hm → hm 205 6 = nI n → hm 205 7 = nI l → ∃ hm1, (∀ v g', mj_dc mj_P E (d' + 8) 198 [.ref 205, .int (nI 0), .int (nI B - 1)] (mj_hw w' c hm1 hl) = some (some (.int v), mj_hw w' c g' hl) → mj_dc mj_P E (d' + 9) 205 [.ref 205, .int (nI (48 + 3 * k))] (mj_hw w' c hm hl) = mj_den mj_P E (d' + 8) 205 70 [.ref 205, .int (nI (48 + 3 * k)), .int (nI (TV i))] [.int v, .int (nI (48 + 3 * k + 1)), .ref 226] (mj_hw w' c g' hl)) ∧ MS 6 y t TY TV BG (i + 1) L h hm1 ∧ gT hm hm1 ∧ hm1 226 (48 + 3 * k) = nI (TV i) ∧ (∀ k', k' ≠ 48 + 3 * k → hm1 226 k' = hm 226 k') := fun hm q h6 h7' => by
    have k21 : mj_dc mj_P E (d' + 8) 184 [.ref 205, .int 21] (mj_hw w' c hm hl) = some (some (.int (if TY i = 2 ∧ TV i = 0 then 1 else 0)), mj_hw w' c hm hl) := s_wdM (d := d' + 7) (x := 0) hG hS.2.2.1 q.2.1 (by decide)
    have k23 : mj_dc mj_P E (d' + 8) 184 [.ref 205, .int 23] (mj_hw w' c hm hl) = some (some (.int (if TY i = 2 ∧ TV i = 1 then 1 else 0)), mj_hw w' c hm hl) := s_wdM (d := d' + 7) (x := 1) hG hS.2.2.1 q.2.1 (by decide)
    have a27 : mj_dc mj_P E (d' + 9) 205 [.ref 205, .int (nI (48 + 3 * k))] (mj_hw w' c hm hl) = mj_den mj_P E (d' + 8) 205 27 [.ref 205, .int (nI (48 + 3 * k)), .float 0] [.int (nI (TV i))] (mj_hw w' c hm hl) := by
      rcases (by omega : TV i = 0 ∨ TV i = 1 ∨ TV i = 2) with z | z | z
      · rw [if_pos ⟨h2, z⟩] at k21
        rw [e205, q205_0, k21, mj_bi_some, q205_6, if_neg (by decide), z]; rfl
      · rw [if_neg (by omega)] at k21
        rw [if_pos ⟨h2, z⟩] at k23
        rw [e205, q205_0, k21, mj_bi_some, q205_6, if_pos rfl, q205_13, k23, mj_bi_some, q205_19, if_neg (by decide), z]; rfl
      · rw [if_neg (by omega)] at k21
        rw [if_neg (by omega)] at k23
        rw [e205, q205_0, k21, mj_bi_some, q205_6, if_pos rfl, q205_13, k23, mj_bi_some, q205_19, if_pos rfl, q205_26, z]; rfl
    obtain ⟨hm1, x1, x2, x3, x4⟩ := p_stM (E := E) (d := d' + 4) (w' := w') (c := c) (hl := hl) hG q hilt
    obtain ⟨hm2, hh2⟩ : ∃ hm2, hm2 = mj_u hm1 226 (48 + 3 * k) (nI (TV i)) := ⟨_, rfl⟩
    refine ⟨hm2, fun v g' ev => ?_, MS_h x2 (fun a k' z => by rw [hh2, mj_u_pt (by omega)]), gT_t (fS_T x3) (fun a k' z1 z2 z3 z4 z5 z6 z7 => by rw [hh2, mj_u_pt (by omega)]), by rw [hh2, mj_u_eq], fun k' z => by rw [hh2, mj_u_pt (by omega), x4 _ _ (by omega)]⟩
    have h62 : hm2 205 6 = nI n := by rw [hh2, mj_u_pt (by omega), x4 _ _ (by omega)]; exact h6
    have h72 : hm1 205 7 = nI l := by rw [x4 _ _ (by omega)]; exact h7'
    have ev' : mj_dc mj_P E (d' + 8) 198 [.ref 205, .int 0, .int (nI B - 1)] (mj_hw w' c hm2 hl) = some (some (.int v), mj_hw w' c g' hl) := ev
    rw [a27, q205_27, x1, mj_bv_some, q205_32, if_pos c960, mj_nIc (by omega), ← hh2, mj_nIs]
    by_cases hz : TV i = 0
    · rw [if_neg (fun z => z (n0.mpr hz)), h72, q205_67]
      rw [hB, if_pos hz] at ev'
      rw [ev', mj_bi_some]
    · rw [if_pos (fun z => hz (n0.mp z)), q205_61, h62, q205_67]
      rw [hB, if_neg hz] at ev'
      rw [ev', mj_bi_some]
  by_cases ok1 : okN TY TV (i + 1) 0 (nI B - 1)
  · obtain ⟨g2, e2, S2, f2, fr2⟩ := p_nbX (E := E) (d := d + 28) (w' := w') (c := c) (hl := hl) hG S1 (by omega) ok1
    have tv1 := (hG.2.2.2.2.2.2 (i + 1) S1.2.2.1).2.1 (by have := ok1.1; omega)
    have an : TV (i + 1) < B := nI_m1 (by omega) (by omega) ok1.2.2
    have v1e : h1 159 12 = nI (TV (i + 1)) := S1.2.1.2.2.1 (by have := ok1.1; omega)
    have hc2 : mj_dc mj_P E (d + 31) 68 [.ref 159] (mj_hw w' c h hl) = mj_den mj_P E (d + 30) 68 43 [.ref 159, .int (nI (TV i)), .int (nI (TV (i + 1))), .float 0] [] (mj_hw w' c g2 hl) := by
      rw [hc1, e2, mj_bi_some, q68_38, if_pos (by decide), v1e]
    have hr2 : ∀ hm, MS 6 y t TY TV BG i L h hm → hm 205 6 = nI n → hm 205 7 = nI l → ∃ hm2, mj_dc mj_P E (d' + 9) 205 [.ref 205, .int (nI (48 + 3 * k))] (mj_hw w' c hm hl) = (if ¬ nI (TV i) = 0 then mj_den mj_P E (d' + 8) 205 142 [.ref 205, .int (nI (48 + 3 * k)), .int (nI (TV i))] [] (mj_hw w' c hm2 hl) else mj_bi (mj_dc mj_P E (d' + 8) 184 [.ref 205, .int 15] (mj_hw w' c hm2 hl)) (fun x1 h1 => mj_den mj_P E (d' + 8) 205 104 [.ref 205, .int (nI (48 + 3 * k)), .int (nI (TV i))] [.int x1] h1)) ∧ MS 6 y t TY TV BG (i + 1 + 1) L h hm2 ∧ gT hm hm2 ∧ hm2 226 (48 + 3 * k) = nI (TV i) ∧ hm2 226 (48 + 3 * k + 1) = nI (TV (i + 1)) ∧ hm2 226 (48 + 3 * k + 2) = 0 ∧ (∀ k', k' ≠ 48 + 3 * k → k' ≠ 48 + 3 * k + 1 → k' ≠ 48 + 3 * k + 2 → hm2 226 k' = hm 226 k') := fun hm q h6 h7' => by
      obtain ⟨hm1, r1, r2, r3, r4, r5⟩ := hr1 hm q h6 h7'
      obtain ⟨hm2, y1, y2, y3, y4⟩ := p_nbM (E := E) (d := d' + 3) (w' := w') (c := c) (hl := hl) hG r2 S1.2.2.1 (by omega) ok1
      obtain ⟨hm3, hh3⟩ : ∃ hm3, hm3 = mj_u hm2 226 (48 + 3 * k + 1) (nI (TV (i + 1))) := ⟨_, rfl⟩
      obtain ⟨hm4, hh4⟩ : ∃ hm4, hm4 = mj_u hm3 226 (48 + 3 * k + 2) 0 := ⟨_, rfl⟩
      refine ⟨hm4, ?_, MS_h y2 (fun a k' z => by rw [hh4, hh3, mj_u_pt (by omega), mj_u_pt (by omega)]), gT_t r3 (gT_t (fS_T y3) (fun a k' z1 z2 z3 z4 z5 z6 z7 => by rw [hh4, hh3, mj_u_pt (by omega), mj_u_pt (by omega)])), ?_, ?_, by rw [hh4, mj_u_eq], fun k' z1 z2 z3 => ?_⟩
      · rw [r1 _ _ y1, q205_70, if_pos (c96 1 (by omega)), mj_nIs, if_pos (c96 1 (by omega)), cc 1 (by omega), mj_u_eq, if_pos (nI_n1 (by omega)), ← hh3, q205_85, e2', if_pos (c96 2 (by omega)), cc 2 (by omega), ← hh4]
      · rw [hh4, hh3, mj_u_pt (by omega), mj_u_pt (by omega), y4 _ _ (by omega)]; exact r4
      · rw [hh4, hh3, mj_u_pt (by omega), mj_u_eq]
      · rw [hh4, hh3, mj_u_pt (by omega), mj_u_pt (by omega), y4 _ _ (by omega), r5 _ z1]
    -- how it ends, both sides
    have hend : ∀ j g3 (v3 r3 : Int32), XS m TY TV BG j L g3 → i + 1 + 1 ≤ j → (∀ a k, a ≠ 159 → g3 a k = g2 a k) → fX g2 g3 → ((v3 = -1 ∧ r3 = 0) ∨ (TV i = 0 ∧ v3 = 3 ∧ r3 = 1) ∨ (TV i = 0 ∧ v3 = 4 ∧ r3 = 2)) →
        mj_dc mj_P E (d + 31) 68 [.ref 159] (mj_hw w' c h hl) = mj_den mj_P E (d + 30) 68 74 [.ref 159, .int (nI (TV i)), .int (nI (TV (i + 1))), .int v3] [] (mj_hw w' c g3 hl) →
        (∀ hm, MS 6 y t TY TV BG i L h hm → hm 205 6 = nI n → hm 205 7 = nI l → ∃ hm3, mj_dc mj_P E (d' + 9) 205 [.ref 205, .int (nI (48 + 3 * k))] (mj_hw w' c hm hl) = mj_den mj_P E (d' + 8) 205 142 [.ref 205, .int (nI (48 + 3 * k)), .int (nI (TV i))] [] (mj_hw w' c hm3 hl) ∧ MS 6 y t TY TV BG j L h hm3 ∧ gT hm hm3 ∧ hm3 226 (48 + 3 * k) = nI (TV i) ∧ hm3 226 (48 + 3 * k + 1) = nI (TV (i + 1)) ∧ hm3 226 (48 + 3 * k + 2) = r3 ∧ (∀ k', k' ≠ 48 + 3 * k → k' ≠ 48 + 3 * k + 1 → k' ≠ 48 + 3 * k + 2 → hm3 226 k' = hm 226 k')) →
        (∃ j g, mj_dc mj_P E (d + 31) 68 [.ref 159] (mj_hw w' c h hl) = some (some (.int 1), mj_hw w' c g hl) ∧ fT h g ∧ g 169 0 = nI (k + 1) ∧ XS m TY TV BG j L g ∧ iv_ph (g 165) L ≤ j ∧ ∀ hm, MS 6 y t TY TV BG i L h hm → QL n l k h hm → hm 205 6 = nI n → hm 205 7 = nI l →
        ((TY j = 3 ∧ TV j = 59 → ∃ hm', mj_dc mj_P E (d' + 9) 205 [.ref 205, .int (nI (48 + 3 * k))] (mj_hw w' c hm hl) = some (some (.int 0), mj_hw w' c hm' hl) ∧ MS 6 y t TY TV BG (j + 1) L g hm' ∧ QL n l (k + 1) g hm' ∧ gT hm hm') ∧
         (¬ (TY j = 3 ∧ TV j = 59) → ∃ hm', mj_dc mj_P E (d' + 9) 205 [.ref 205, .int (nI (48 + 3 * k))] (mj_hw w' c hm hl) = some (some (.int (-1)), mj_hw w' c hm' hl) ∧ GT BG hm hm' 1 j))) := fun j g3 v3 r3 S3 hij fr3 ff3 hv3 hcl hrf => by
      have frh : ∀ a k, a ≠ 159 → g3 a k = h a k := fun a k' za => by rw [fr3 a k' za, fr2 a k' za, fr1 a k' za]
      have g0 : g3 169 0 = nI k := by rw [frh _ _ (by omega)]; exact h0
      obtain ⟨gz, hgz⟩ : ∃ gz, gz = mj_u (mj_u (mj_u (mj_u g3 170 k (nI (TV i))) 171 k (nI (TV (i + 1)))) 172 k v3) 169 0 (nI (k + 1)) := ⟨_, rfl⟩
      have ea := p_add (E := E) (d := d + 29) (w' := w') (c := c) (hl := hl) hk g0 (nI (TV i)) (nI (TV (i + 1))) v3
      rw [← hgz] at ea
      have fz : ∀ a k', ¬ (169 ≤ a ∧ a ≤ 172) → gz a k' = g3 a k' := fun a k' za => by rw [hgz, mj_u_pt (by omega), mj_u_pt (by omega), mj_u_pt (by omega), mj_u_pt (by omega)]
      have bz : bX h gz L := fun k' _ => ⟨by rw [fz _ _ (by omega), frh _ _ (by omega)], by rw [fz _ _ (by omega), frh _ _ (by omega)]⟩
      refine ⟨j, gz, ?_, fT_t (fT_t (fX_T f1) (fT_t (fX_T f2) (fX_T ff3))) (fun a k' za zb zc => fz a k' zb), by rw [hgz, mj_u_eq], XS_c S3 (fun a k' za => fz a k' (by omega)), by rw [bX_ph bz (Nat.le_refl _)]; omega, fun hm q hq h6 h7' => ?_⟩
      · rw [hcl, q68_74, ea, mj_bv_some, q68_84, if_pos (Or.inr rfl)]
      · obtain ⟨hm3, r1, r2, r3', r4, r5, r6, r7⟩ := hrf hm q h6 h7'
        obtain ⟨px, pn⟩ := p_xpM (E := E) (d := d' + 3) (w' := w') (c := c) (hl := hl) (x := 59) hG r2 S3.2.2.1 (by omega)
        refine ⟨fun hc => ?_, fun hc => ?_⟩
        · obtain ⟨hm5, s1, s2, s3, s4⟩ := px hc
          have s1' : mj_dc mj_P E (d' + 8) 199 [.ref 205, .int 59] (mj_hw w' c hm3 hl) = some (some (.int 0), mj_hw w' c hm5 hl) := s1
          refine ⟨hm5, by rw [r1, q205_142, s1', mj_bi_some, q205_148], MS_g' s2 bz, fun i' hi' => ?_, gT_t r3' (fS_T s3)⟩
          by_cases hik : i' = k
          · subst hik
            refine ⟨TV i, TV (i + 1), hv, ?_, ?_, ?_, ?_, by rw [← hB]; exact an, ?_⟩
            · rw [hgz, mj_u_pt (by omega), mj_u_pt (by omega), mj_u_pt (by omega), mj_u_eq]
            · rw [s4 _ _ (by omega)]; exact r4
            · rw [hgz, mj_u_pt (by omega), mj_u_pt (by omega), mj_u_eq]
            · rw [s4 _ _ (by omega)]; exact r5
            · rw [s4 _ _ (by omega), r6, hgz, mj_u_pt (by omega), mj_u_eq]; exact hv3
          · obtain ⟨x, y', a1, a2, a3, a4, a5, a6, a7⟩ := hq i' (by omega)
            have eg : ∀ a, 170 ≤ a → a ≤ 172 → gz a i' = h a i' := fun a za zb => by rw [hgz, mj_u_pt (by omega), mj_u_pt (by omega), mj_u_pt (by omega), mj_u_pt (by omega), frh _ _ (by omega)]
            have em : ∀ k', k' ≠ 48 + 3 * k → k' ≠ 48 + 3 * k + 1 → k' ≠ 48 + 3 * k + 2 → hm5 226 k' = hm 226 k' := fun k' z1 z2 z3 => by rw [s4 _ _ (by omega), r7 _ z1 z2 z3]
            refine ⟨x, y', a1, by rw [eg _ (by omega) (by omega)]; exact a2, by rw [em _ (by omega) (by omega) (by omega)]; exact a3, by rw [eg _ (by omega) (by omega)]; exact a4, by rw [em _ (by omega) (by omega) (by omega)]; exact a5, a6, ?_⟩
            rw [eg _ (by omega) (by omega), em _ (by omega) (by omega) (by omega)]; exact a7
        · obtain ⟨hm5, s1, s2⟩ := pn hc
          have s1' : mj_dc mj_P E (d' + 8) 199 [.ref 205, .int 59] (mj_hw w' c hm3 hl) = some (some (.int (-1)), mj_hw w' c hm5 hl) := s1
          exact ⟨hm5, by rw [r1, q205_142, s1', mj_bi_some, q205_148], GT_t r3' (FM_GT s2)⟩
    refine Or.inr ?_
    have X3 : mj_dc mj_P E (d + 30) 57 [.ref 159, .int 3] (mj_hw w' c g2 hl) = some (some (.int (if TY (i + 1 + 1) = 2 ∧ TV (i + 1 + 1) = 3 then 1 else 0)), mj_hw w' c g2 hl) := s_wdX (d := d + 29) (x := 3) hG S2.2.2.1 S2.2.1 (by omega)
    have X4 : mj_dc mj_P E (d + 30) 57 [.ref 159, .int 4] (mj_hw w' c g2 hl) = some (some (.int (if TY (i + 1 + 1) = 2 ∧ TV (i + 1 + 1) = 4 then 1 else 0)), mj_hw w' c g2 hl) := s_wdX (d := d + 29) (x := 4) hG S2.2.2.1 S2.2.1 (by omega)
    have M3 : ∀ hm, MS 6 y t TY TV BG (i + 1 + 1) L h hm → mj_dc mj_P E (d' + 8) 184 [.ref 205, .int 15] (mj_hw w' c hm hl) = some (some (.int (if TY (i + 1 + 1) = 2 ∧ TV (i + 1 + 1) = 3 then 1 else 0)), mj_hw w' c hm hl) := fun hm q => s_wdM (d := d' + 7) (x := 3) hG S2.2.2.1 q.2.1 (by decide)
    have M4 : ∀ hm, MS 6 y t TY TV BG (i + 1 + 1) L h hm → mj_dc mj_P E (d' + 8) 184 [.ref 205, .int 22] (mj_hw w' c hm hl) = some (some (.int (if TY (i + 1 + 1) = 2 ∧ TV (i + 1 + 1) = 4 then 1 else 0)), mj_hw w' c hm hl) := fun hm q => s_wdM (d := d' + 7) (x := 4) hG S2.2.2.1 q.2.1 (by decide)
    by_cases hz : TV i = 0
    · have nz := n0.mpr hz
      by_cases hw : TY (i + 1 + 1) = 2 ∧ (TV (i + 1 + 1) = 3 ∨ TV (i + 1 + 1) = 4)
      · have hlt2 := tx_lt hG S2.2.2.1 (show TY (i + 1 + 1) ≠ 0 by omega)
        obtain ⟨g3, e3, S3, f3, fr3⟩ := p_stX (E := E) (d := d + 29) (w' := w') (c := c) (hl := hl) hG S2 hlt2
        have v12 : g2 159 12 = nI (TV (i + 1 + 1)) := S2.2.1.2.2.1 (by omega)
        have c65 : mj_dc mj_P E (d + 31) 68 [.ref 159] (mj_hw w' c h hl) = mj_den mj_P E (d + 30) 68 74 [.ref 159, .int (nI (TV i)), .int (nI (TV (i + 1))), .int (nI (TV (i + 1 + 1)))] [] (mj_hw w' c g3 hl) := by
          rw [hc2, q68_43, if_neg (fun z => z nz)]
          rcases hw.2 with z | z
          · rw [if_pos ⟨hw.1, z⟩] at X3
            rw [X3, mj_bi_some, q68_54, if_pos (by decide), q68_65, e3, mj_bv_some, v12]
          · rw [if_neg (by omega)] at X3
            rw [if_pos ⟨hw.1, z⟩] at X4
            rw [X3, mj_bi_some, q68_54, if_neg (fun z => z rfl), X4, mj_bi_some, q68_62, if_neg (by decide), q68_65, e3, mj_bv_some, v12]
        obtain ⟨r3, hr3, hrel⟩ : ∃ r3 : Int32, ((TV (i + 1 + 1) = 3 ∧ r3 = 1) ∨ (TV (i + 1 + 1) = 4 ∧ r3 = 2)) ∧ ((nI (TV (i + 1 + 1)) = -1 ∧ r3 = 0) ∨ (TV i = 0 ∧ nI (TV (i + 1 + 1)) = 3 ∧ r3 = 1) ∨ (TV i = 0 ∧ nI (TV (i + 1 + 1)) = 4 ∧ r3 = 2)) := by
          rcases hw.2 with z | z
          · exact ⟨1, Or.inl ⟨z, rfl⟩, Or.inr (Or.inl ⟨hz, by rw [z]; rfl, rfl⟩)⟩
          · exact ⟨2, Or.inr ⟨z, rfl⟩, Or.inr (Or.inr ⟨hz, by rw [z]; rfl, rfl⟩)⟩
        refine hend _ g3 (nI (TV (i + 1 + 1))) r3 S3 (by omega) fr3 f3 hrel c65 (fun hm q h6 h7' => ?_)
        obtain ⟨hm2, s1, s2, s3, s4, s5, s6, s7⟩ := hr2 hm q h6 h7'
        rw [if_neg (fun z => z nz)] at s1
        have m3 := M3 hm2 s2
        have m4 := M4 hm2 s2
        obtain ⟨hm3, hh3⟩ : ∃ hm3, hm3 = mj_u hm2 226 (48 + 3 * k + 2) r3 := ⟨_, rfl⟩
        obtain ⟨hm4, x1, x2, x3, x4⟩ := p_stM (E := E) (d := d' + 4) (w' := w') (c := c) (hl := hl) hG (MS_h s2 (fun a k' z => by rw [hh3, mj_u_pt (by omega)]) : MS 6 y t TY TV BG (i + 1 + 1) L h hm3) hlt2
        refine ⟨hm4, ?_, x2, gT_t s3 (gT_t (fun a k' z1 z2 z3 z4 z5 z6 z7 => by rw [hh3, mj_u_pt (by omega)]) (fS_T x3)), ?_, ?_, ?_, fun k' z1 z2 z3 => ?_⟩
        · rcases hr3 with ⟨z, zr⟩ | ⟨z, zr⟩
          · rw [if_pos ⟨hw.1, z⟩] at m3
            rw [s1, m3, mj_bi_some, q205_104, if_pos (by decide), q205_116, m3, mj_bi_some, q205_129, if_neg (by decide), q205_137, e2', if_pos (c96 2 (by omega)), cc 2 (by omega), ← zr, ← hh3, x1, mj_bv_some]
          · rw [if_neg (by omega)] at m3
            rw [if_pos ⟨hw.1, z⟩] at m4
            rw [s1, m3, mj_bi_some, q205_104, if_neg (fun z => z rfl), m4, mj_bi_some, q205_113, if_neg (by decide), q205_116, m3, mj_bi_some, q205_129, if_pos rfl, q205_136, q205_137, e2', if_pos (c96 2 (by omega)), cc 2 (by omega), ← zr, ← hh3, x1, mj_bv_some]
        · rw [x4 _ _ (by omega), hh3, mj_u_pt (by omega)]; exact s4
        · rw [x4 _ _ (by omega), hh3, mj_u_pt (by omega)]; exact s5
        · rw [x4 _ _ (by omega), hh3, mj_u_eq]
        · rw [x4 _ _ (by omega), hh3, mj_u_pt (by omega)]; exact s7 k' z1 z2 z3
      · rw [if_neg (by omega)] at X3 X4
        refine hend _ g2 (-1) 0 S2 (Nat.le_refl _) (fun a k' za => rfl) (fX_r g2) (Or.inl ⟨rfl, rfl⟩) ?_ (fun hm q h6 h7' => ?_)
        · rw [hc2, q68_43, if_neg (fun z => z nz), X3, mj_bi_some, q68_54, if_neg (fun z => z rfl), X4, mj_bi_some, q68_62, if_pos rfl]
        · obtain ⟨hm2, s1, s2, s3, s4, s5, s6, s7⟩ := hr2 hm q h6 h7'
          have m3 := M3 hm2 s2
          have m4 := M4 hm2 s2
          rw [if_neg (by omega)] at m3 m4
          rw [if_neg (fun z => z nz)] at s1
          exact ⟨hm2, by rw [s1, m3, mj_bi_some, q205_104, if_neg (fun z => z rfl), m4, mj_bi_some, q205_113, if_pos rfl], s2, s3, s4, s5, s6, s7⟩
    · have nz : ¬ nI (TV i) = (0 : Int32) := fun z => hz (n0.mp z)
      refine hend _ g2 (-1) 0 S2 (Nat.le_refl _) (fun a k' za => rfl) (fX_r g2) (Or.inl ⟨rfl, rfl⟩) ?_ (fun hm q h6 h7' => ?_)
      · rw [hc2, q68_43, if_pos nz]
      · obtain ⟨hm2, s1, s2, s3, s4, s5, s6, s7⟩ := hr2 hm q h6 h7'
        rw [if_pos nz] at s1
        exact ⟨hm2, s1, s2, s3, s4, s5, s6, s7⟩
  · obtain ⟨g2, e2, F2⟩ := p_nbXf (E := E) (d := d + 28) (w' := w') (c := c) (hl := hl) hG S1 (by omega) ok1
    refine Or.inl ⟨_, _, g2, ?_, FT_t (fX_T f1) (FX_FT F2), fun hm q hq h6 h7' => ?_⟩
    · rw [hc1, e2, mj_bi_some, q68_38, if_neg (fun z => z rfl), if_pos (Or.inl rfl)]
    · obtain ⟨hm1, r1, r2, r3, r4, r5⟩ := hr1 hm q h6 h7'
      obtain ⟨hm2, y1, y2⟩ := p_nbMf (E := E) (d := d' + 3) (w' := w') (c := c) (hl := hl) hG r2 S1.2.2.1 (by omega) ok1
      refine ⟨mj_u hm2 226 (48 + 3 * k + 1) (-1), ?_, gT_t r3 (gT_t (fS_T y2.1) (fun a k' z1 z2 z3 z4 z5 z6 z7 => by rw [mj_u_pt (by omega)])), by rw [mj_u_pt (by omega)]; exact y2.2.1, by rw [mj_u_pt (by omega)]; exact y2.2.2⟩
      rw [r1 _ _ y1, q205_70, if_pos (c96 1 (by omega)), mj_nIs, if_pos (c96 1 (by omega)), cc 1 (by omega), mj_u_eq, if_neg (fun z => z rfl)]
theorem s_sale {v2 v3 : Int32} (hn10 : n ≤ 10) (hl12 : l ≤ 12) (hG : txG 6 y t m TY TV BG) {i : Nat} {h : mj_HI} (hS : XS m TY TV BG i 0 h) (h0 : h 169 0 = 0) (h7 : h 159 7 = nI n) (h8 : h 159 8 = nI l) :
    (∃ f j g, mj_den mj_P E (d + 31) 48 105 [.ref 159, .int 3, .int v2, .int v3, .int 2, .int 0, .float 0] [] (mj_hw w' c h hl) = some (some (.int 0), mj_hw w' c g hl) ∧ FT BG h g f j ∧ ∀ hm, MS 6 y t TY TV BG i 0 h hm → hm 205 6 = nI n → hm 205 7 = nI l → ∃ hm', mj_dc mj_P E (d' + 10) 206 [.ref 205] (mj_hw w' c hm hl) = some (some (.int (-1)), mj_hw w' c hm' hl) ∧ GT BG hm hm' f j) ∨
    (∃ k' g, mj_den mj_P E (d + 31) 48 105 [.ref 159, .int 3, .int v2, .int v3, .int 2, .int 0, .float 0] [] (mj_hw w' c h hl) = some (some (.int 1), mj_hw w' c g hl) ∧ fT h g ∧ k' ≤ 16 ∧ g 169 0 = nI k' ∧ ∀ hm, MS 6 y t TY TV BG i 0 h hm → hm 205 6 = nI n → hm 205 7 = nI l → ∃ hm', mj_dc mj_P E (d' + 10) 206 [.ref 205] (mj_hw w' c hm hl) = some (some (.int (nI k')), mj_hw w' c hm' hl) ∧ QL n l k' g hm' ∧ gT hm hm') := by
  have wd : ∀ x i L h hm, x < 3 → i ≤ m → MS 6 y t TY TV BG i L h hm → mj_dc mj_P E (d' + 9) 184 [.ref 205, .int (nI (kK 6 x))] (mj_hw w' c hm hl) = some (some (.int (if TY i = 2 ∧ TV i = x then 1 else 0)), mj_hw w' c hm hl) := fun x i L h hm hx him q => s_wdM (d := d' + 8) (x := x) hG him q.2.1 (by show x < 5; omega)
  have gt : ∀ i L h hm k, i ≤ m → MS 6 y t TY TV BG i L h hm → (TY i = 2 ∧ TV i ≤ 2 → mj_den mj_P E (d' + 9) 206 2 [.ref 205, .int (nI k)] [] (mj_hw w' c hm hl) = mj_den mj_P E (d' + 9) 206 29 [.ref 205, .int (nI k)] [] (mj_hw w' c hm hl)) ∧ (¬ (TY i = 2 ∧ TV i ≤ 2) → mj_den mj_P E (d' + 9) 206 2 [.ref 205, .int (nI k)] [] (mj_hw w' c hm hl) = mj_den mj_P E (d' + 9) 206 64 [.ref 205, .int (nI k)] [] (mj_hw w' c hm hl)) := fun i L h hm k him q => by
    have k0 : mj_dc mj_P E (d' + 9) 184 [.ref 205, .int 21] (mj_hw w' c hm hl) = _ := wd 0 i L h hm (by omega) him q
    have k1 : mj_dc mj_P E (d' + 9) 184 [.ref 205, .int 23] (mj_hw w' c hm hl) = _ := wd 1 i L h hm (by omega) him q
    have k2 : mj_dc mj_P E (d' + 9) 184 [.ref 205, .int 24] (mj_hw w' c hm hl) = _ := wd 2 i L h hm (by omega) him q
    refine ⟨fun hb => ?_, fun hb => ?_⟩
    · rcases (by omega : TV i = 0 ∨ TV i = 1 ∨ TV i = 2) with z | z | z
      · rw [if_pos ⟨hb.1, z⟩] at k0
        rw [q206_2, k0, mj_bi_some, q206_8, if_pos (by decide)]
      · rw [if_neg (by omega)] at k0
        rw [if_pos ⟨hb.1, z⟩] at k1
        rw [q206_2, k0, mj_bi_some, q206_8, if_neg (fun z => z rfl), k1, mj_bi_some, q206_17, if_pos (by decide)]
      · rw [if_neg (by omega)] at k0
        rw [if_neg (by omega)] at k1
        rw [if_pos ⟨hb.1, z⟩] at k2
        rw [q206_2, k0, mj_bi_some, q206_8, if_neg (fun z => z rfl), k1, mj_bi_some, q206_17, if_neg (fun z => z rfl), k2, mj_bi_some, q206_26, if_neg (by decide)]
    · rw [if_neg (by omega)] at k0
      rw [if_neg (by omega)] at k1
      rw [if_neg (by omega)] at k2
      rw [q206_2, k0, mj_bi_some, q206_8, if_neg (fun z => z rfl), k1, mj_bi_some, q206_17, if_neg (fun z => z rfl), k2, mj_bi_some, q206_26, if_pos rfl]
  have key := tx_loop (E := E) (d := d) (w := 6) (w' := w') (c := c) (hl := hl) (bg := 2) (a := 3) (v2 := v2) (v3 := v3) hG (by omega) (fun _ H => mj_dc mj_P E (d + 31) 68 [.ref 159] H) (fun k _ H => mj_den mj_P E (d' + 9) 206 2 [.ref 205, .int (nI k)] [] H) (fun _ => True) (fun k g => g 169 0 = nI k ∧ g 159 7 = nI n ∧ g 159 8 = nI l) (fun k L g hm => QL n l k g hm ∧ hm 205 6 = nI n ∧ hm 205 7 = nI l)
    (fun k u h s g hu e => by
      rcases hu with rfl | ⟨x, rfl⟩
      · rw [q48_155, if_pos (by decide), q48_168_1, if_pos (by decide), q48_180_1, if_pos (by decide), q48_192_1, e, mj_bi_some]
      · rw [q48_155_1, if_pos (by decide), q48_168, if_pos (by decide), q48_180, if_pos (by decide), q48_192, e, mj_bi_some])
    (fun k g g' e ef q => ⟨by rw [e _ _ (by omega)]; exact q.1, by rw [ef _ _ (by omega) (by omega) (by omega) (by omega)]; exact q.2.1, by rw [ef _ _ (by omega) (by omega) (by omega) (by omega)]; exact q.2.2⟩)
    (fun k L g g' hm e q => ⟨fun i hi => by rw [e 170 _ (by omega), e 171 _ (by omega), e 172 _ (by omega)]; exact q.1 i hi, q.2⟩)
    (fun i L k h hS _ hcap hk h2 hb hC => by
      have bgn : ∀ hm, MS 6 y t TY TV BG i L h hm → mj_den mj_P E (d' + 9) 206 2 [.ref 205, .int (nI k)] [] (mj_hw w' c hm hl) = mj_bi (mj_dc mj_P E (d' + 9) 205 [.ref 205, .int (nI (48 + 3 * k))] (mj_hw w' c hm hl)) (fun x1 h1 => mj_den mj_P E (d' + 9) 206 51 [.ref 205, .int (nI k)] [.int x1] h1) := fun hm q => by
        rw [(gt i L h hm k hS.2.2.1 q).1 ⟨h2, hb⟩, q206_29, if_pos (by rw [show (16 : Int32) = nI 16 from rfl, mj_nIeq (by omega) (by omega)]; omega), q206_41, show (3 : Int32) * nI k = nI (3 * k) from mj_nImul 3 k, show (48 : Int32) + nI (3 * k) = nI (48 + 3 * k) from mj_nIadd 48 (3 * k)]
      rcases s_saleL (E := E) (d := d) (d' := d') (w' := w') (c := c) (hl := hl) hn10 hl12 hG hS hcap hk h2 hb hC.1 hC.2.1 hC.2.2 with ⟨f, j, g, o1, o2, o3⟩ | ⟨j, g, o1, o2, o3, o4, o6, o7⟩
      · refine Or.inl ⟨f, j, g, o1, o2, fun hm u q hq _ => ?_⟩
        obtain ⟨hm', r1, r2⟩ := o3 hm q hq.1 hq.2.1 hq.2.2
        exact ⟨hm', by show mj_den mj_P E (d' + 9) 206 2 _ _ _ = _; rw [bgn hm q, r1, mj_bi_some, q206_51, if_neg (fun z => z rfl)], r2⟩
      · refine Or.inr ⟨j, L, g, o1, o2, ⟨o3, by rw [o2 _ _ (by omega) (by omega) (by omega)]; exact hC.2.1, by rw [o2 _ _ (by omega) (by omega) (by omega)]; exact hC.2.2⟩, o4, o6, fun hm u q hq _ => ⟨fun hc => ?_, fun hc => ?_⟩⟩
        · obtain ⟨hm', r1, r2, r3, r4⟩ := (o7 hm q hq.1 hq.2.1 hq.2.2).1 hc
          refine ⟨hm', u, trivial, ?_, r2, ⟨r3, by rw [r4 _ _ (by omega) (by omega) (by omega) (by omega) (by omega) (by omega) (by omega)]; exact hq.2.1, by rw [r4 _ _ (by omega) (by omega) (by omega) (by omega) (by omega) (by omega) (by omega)]; exact hq.2.2⟩, r4⟩
          show mj_den mj_P E (d' + 9) 206 2 _ _ _ = mj_den mj_P E (d' + 9) 206 2 _ _ _
          rw [bgn hm q, r1, mj_bi_some, q206_51, if_pos (by decide), q206_57, mj_nIs]
        · obtain ⟨hm', r1, r2⟩ := (o7 hm q hq.1 hq.2.1 hq.2.2).2 hc
          exact ⟨hm', by show mj_den mj_P E (d' + 9) 206 2 _ _ _ = _; rw [bgn hm q, r1, mj_bi_some, q206_51, if_neg (fun z => z rfl)], r2⟩)
    (fun i L k h hm u him q _ hb => by
      have g2 := (gt i L h hm k him q).2 hb
      refine ⟨fun h0 => ?_, fun h0 => ?_⟩
      · show mj_den mj_P E (d' + 9) 206 2 _ _ _ = _
        rw [g2, q206_64, if_neg (fun z => z ((p_17 q).mpr h0)), q206_80]
      · obtain ⟨hm2, x1, x2⟩ := p_erM (E := E) (d := d' + 8) (w' := w') (c := c) (hl := hl) (f := 1) q
        have x1' : mj_dc mj_P E (d' + 9) 183 [.ref 205, .int 1] (mj_hw w' c hm hl) = some (some (.int (-1)), mj_hw w' c hm2 hl) := x1
        refine ⟨hm2, ?_, FM_GT x2⟩
        show mj_den mj_P E (d' + 9) 206 2 _ _ _ = _
        rw [g2, q206_64, if_pos (fun z => h0 ((p_17 q).mp z)), q206_75, x1', mj_bi_some, q206_80])
    (fun i L h hm u him q _ h2 hb => by
      have g2 := (gt i L h hm 16 him q).1 ⟨h2, hb⟩
      obtain ⟨hm2, x1, x2⟩ := p_erM (E := E) (d := d' + 8) (w' := w') (c := c) (hl := hl) (f := 3) q
      have x1' : mj_dc mj_P E (d' + 9) 183 [.ref 205, .int 3] (mj_hw w' c hm hl) = some (some (.int (-1)), mj_hw w' c hm2 hl) := x1
      refine ⟨hm2, ?_, FM_GT x2⟩
      show mj_den mj_P E (d' + 9) 206 2 _ _ _ = _
      rw [g2, q206_29, if_neg (fun z => z rfl), x1', mj_bi_some, q206_40])
    16 0 i 0 h (.float 0) rfl (Or.inl rfl) hS (Nat.zero_le _) ⟨h0, h7, h8⟩
  have er : ∀ hm, mj_dc mj_P E (d' + 10) 206 [.ref 205] (mj_hw w' c hm hl) = mj_den mj_P E (d' + 9) 206 2 [.ref 205, .int (nI 0)] [] (mj_hw w' c hm hl) := fun hm => by rw [e206, q206_0]; rfl
  rcases key with ⟨f, j, g, o1, o2, o3⟩ | ⟨k', j, L', g, o1, o2, o3, o4, o5, o6, o7⟩
  · refine Or.inl ⟨f, j, g, o1, o2, fun hm q h6 h7' => ?_⟩
    rw [er]; exact o3 hm (.float 0) q ⟨fun i hi => by omega, h6, h7'⟩ trivial
  · refine Or.inr ⟨k', g, o1, o2, o3, o4.1, fun hm q h6 h7' => ?_⟩
    rw [er]
    obtain ⟨hm', r1, r2, r3, r4⟩ := o7 hm (.float 0) q ⟨fun i hi => by omega, h6, h7'⟩ trivial
    exact ⟨hm', r1, r3.1, r4⟩
end MJZ26
