/-! speech -/
def QS (k L : Nat) (g hm : mj_HI) : Prop := ∀ i, i < k → g 171 i = hm 224 (32 + 2 * i) ∧ ∃ y, 1 ≤ y ∧ y ≤ 60 ∧ g 172 i = nI y ∧ hm 224 (32 + 2 * i + 1) = nI y
section MJZ22
variable {E : mj_E} {d d' w w' c : Nat} {hl : Nat → Nat → Int64} {y TY TV BG : Nat → Nat} {t m : Nat}
theorem nI_n1 {k : Nat} (hk : k < 100000) : ¬ nI k = (-1 : Int32) := by rw [mj_nIn (by omega)]; exact fun h => h
theorem nle7 {a b : Nat} (ha : a < 100000) (hb : b < 100000) : (nI a ≤ nI b) ↔ a ≤ b := by rw [mj_nIle (by omega) (by omega)]
/-- one line spoken -/
theorem s_sayL {i L k : Nat} {h : mj_HI} (hG : txG 4 y t m TY TV BG) (hS : XS m TY TV BG i L h) (hcap : iv_ph (h 165) L ≤ i) (hk : k < 16) (h2 : TY i = 2) (hv : TV i = 0) (h0 : h 169 0 = nI k) :
    (∃ f j g, mj_dc mj_P E (d + 31) 66 [.ref 159] (mj_hw w' c h hl) = some (some (.int 0), mj_hw w' c g hl) ∧ FT BG h g f j ∧ ∀ hm, MS 4 y t TY TV BG i L h hm → QS k L h hm → ∃ hm', mj_dc mj_P E (d' + 9) 201 [.ref 205, .int (nI (32 + 2 * k))] (mj_hw w' c hm hl) = some (some (.int (-1)), mj_hw w' c hm' hl) ∧ GT BG hm hm' f j) ∨
    (∃ j g, mj_dc mj_P E (d + 31) 66 [.ref 159] (mj_hw w' c h hl) = some (some (.int 1), mj_hw w' c g hl) ∧ fT h g ∧ g 169 0 = nI (k + 1) ∧ XS m TY TV BG j L g ∧ iv_ph (g 165) L ≤ j ∧ ∀ hm, MS 4 y t TY TV BG i L h hm → QS k L h hm →
        ((TY j = 3 ∧ TV j = 59 → ∃ hm', mj_dc mj_P E (d' + 9) 201 [.ref 205, .int (nI (32 + 2 * k))] (mj_hw w' c hm hl) = some (some (.int 0), mj_hw w' c hm' hl) ∧ MS 4 y t TY TV BG (j + 1) L g hm' ∧ QS (k + 1) L g hm' ∧ gT hm hm') ∧
         (¬ (TY j = 3 ∧ TV j = 59) → ∃ hm', mj_dc mj_P E (d' + 9) 201 [.ref 205, .int (nI (32 + 2 * k))] (mj_hw w' c hm hl) = some (some (.int (-1)), mj_hw w' c hm' hl) ∧ GT BG hm hm' 1 j))) := by
  have hilt := tx_lt hG hS.2.2.1 (show TY i ≠ 0 by omega)
  have c64 : (0 ≤ nI (32 + 2 * k) ∧ (nI (32 + 2 * k)).toNatClampNeg < 64) := ⟨by rw [mj_nI0 (by omega)]; trivial, by rw [mj_nIc (by omega)]; omega⟩
  have cc : (nI (32 + 2 * k)).toNatClampNeg = 32 + 2 * k := mj_nIc (by omega)
  have c64' : (0 ≤ nI (32 + 2 * k + 1) ∧ (nI (32 + 2 * k + 1)).toNatClampNeg < 64) := ⟨by rw [mj_nI0 (by omega)]; trivial, by rw [mj_nIc (by omega)]; omega⟩
  have cc' : (nI (32 + 2 * k + 1)).toNatClampNeg = 32 + 2 * k + 1 := mj_nIc (by omega)
  obtain ⟨h1, e1, S1, f1, fr1⟩ := p_stX (E := E) (d := d + 29) (w' := w') (c := c) (hl := hl) hG hS hilt
  have hc1 : mj_dc mj_P E (d + 31) 66 [.ref 159] (mj_hw w' c h hl) = mj_bi (mj_dc mj_P E (d + 30) 60 [.ref 159, .int (nI 0), .int (nI 7)] (mj_hw w' c h1 hl)) (fun x1 h2 => mj_den mj_P E (d + 30) 66 16 [.ref 159, .int (h1 159 12), .float 0] [.int x1] h2) := by
    rw [e66, q66_0, e1, mj_bv_some, q66_4]; rfl
  by_cases ok1 : okN TY TV (i + 1) 0 (nI 7)
  · obtain ⟨g2, e2, S2, f2, fr2⟩ := p_nbX (E := E) (d := d + 28) (w' := w') (c := c) (hl := hl) hG S1 (by omega) ok1
    have tv1 := (hG.2.2.2.2.2.2 (i + 1) S1.2.2.1).2.1 (by have := ok1.1; omega)
    have v1e : h1 159 12 = nI (TV (i + 1)) := S1.2.1.2.2.1 (by have := ok1.1; omega)
    have X1 : mj_dc mj_P E (d + 30) 57 [.ref 159, .int 1] (mj_hw w' c g2 hl) = some (some (.int (if TY (i + 1 + 1) = 2 ∧ TV (i + 1 + 1) = 1 then 1 else 0)), mj_hw w' c g2 hl) := s_wdX (d := d + 29) (x := 1) hG S2.2.2.1 S2.2.1 (by omega)
    have hc2 : mj_dc mj_P E (d + 31) 66 [.ref 159] (mj_hw w' c h hl) = mj_den mj_P E (d + 30) 66 28 [.ref 159, .int (nI (TV (i + 1))), .int 1] [.int (if TY (i + 1 + 1) = 2 ∧ TV (i + 1 + 1) = 1 then 1 else 0)] (mj_hw w' c g2 hl) := by
      rw [hc1, e2, mj_bi_some, q66_16, if_pos (by decide), q66_21, X1, mj_bi_some, v1e]
    -- the reference so far
    have hr2 : ∀ hm, MS 4 y t TY TV BG i L h hm → ∃ hm2, mj_dc mj_P E (d' + 9) 201 [.ref 205, .int (nI (32 + 2 * k))] (mj_hw w' c hm hl) = mj_den mj_P E (d' + 8) 201 40 [.ref 205, .int (nI (32 + 2 * k))] [.int (if TY (i + 1 + 1) = 2 ∧ TV (i + 1 + 1) = 1 then 1 else 0), .int (nI (32 + 2 * k + 1)), .ref 224] (mj_hw w' c hm2 hl) ∧ MS 4 y t TY TV BG (i + 1 + 1) L h hm2 ∧ gT hm hm2 ∧ hm2 224 (32 + 2 * k) = nI (TV (i + 1)) ∧ (∀ k', k' ≠ 32 + 2 * k → hm2 224 k' = hm 224 k') := fun hm q => by
      obtain ⟨hm1, q1, x2, x3, x4⟩ := p_200 (E := E) (d := d' + 2) (w' := w') (c := c) (hl := hl) (x := 0) (lo := nI 0) (hi := nI 7) hG q hS.2.2.1 (by decide) h2 hv
      obtain ⟨hm2, y1, y2, y3, y4⟩ := p_nbM (E := E) (d := d' + 2) (w' := w') (c := c) (hl := hl) hG q1 S1.2.2.1 (by omega) ok1
      have k200 : mj_dc mj_P E (d' + 8) 200 [.ref 205, .int 17, .int 0, .int 7] (mj_hw w' c hm hl) = some (some (.int (nI (TV (i + 1)))), mj_hw w' c hm2 hl) := x4 _ _ y1
      obtain ⟨hm3, hh3⟩ : ∃ hm3, hm3 = mj_u hm2 224 (32 + 2 * k) (nI (TV (i + 1))) := ⟨_, rfl⟩
      have q3 : MS 4 y t TY TV BG (i + 1 + 1) L h hm3 := MS_h y2 (fun a k' z => by rw [hh3, mj_u_pt (by omega)])
      have k18 : mj_dc mj_P E (d' + 8) 184 [.ref 205, .int 18] (mj_hw w' c hm3 hl) = some (some (.int (if TY (i + 1 + 1) = 2 ∧ TV (i + 1 + 1) = 1 then 1 else 0)), mj_hw w' c hm3 hl) := s_wdM (d := d' + 7) (x := 1) hG S2.2.2.1 q3.2.1 (by decide)
      refine ⟨hm3, ?_, q3, fun a k' z1 z2 z3 z4 z5 z6 z7 => ?_, by rw [hh3, mj_u_eq], fun k' z => ?_⟩
      · rw [e201, q201_0, k200, mj_bi_some, q201_14, if_pos c64, if_pos c64, cc, mj_u_eq, if_pos (nI_n1 (by omega)), ← hh3, q201_27, k18, mj_bi_some, mj_nIs]
      · rw [hh3, mj_u_pt (by omega)]; exact gT_t (fS_T x2) (fS_T y3) a k' z1 z2 z3 z4 z5 z6 z7
      · rw [hh3, mj_u_pt (by omega), y4 _ _ (by omega), x3 _ _ (by omega)]
    -- how it ends, both sides
    have hend : ∀ j g3 (z : Nat), XS m TY TV BG j L g3 → i + 1 + 1 ≤ j → (∀ a k, a ≠ 159 → g3 a k = g2 a k) → fX g2 g3 → 1 ≤ z → z ≤ 60 →
        mj_dc mj_P E (d + 31) 66 [.ref 159] (mj_hw w' c h hl) = mj_den mj_P E (d + 30) 66 52 [.ref 159, .int (nI (TV (i + 1))), .int (nI z)] [] (mj_hw w' c g3 hl) →
        (∀ hm, MS 4 y t TY TV BG i L h hm → ∃ hm3, mj_dc mj_P E (d' + 9) 201 [.ref 205, .int (nI (32 + 2 * k))] (mj_hw w' c hm hl) = mj_den mj_P E (d' + 8) 201 56 [.ref 205, .int (nI (32 + 2 * k))] [.int (nI z), .int (nI (32 + 2 * k + 1)), .ref 224] (mj_hw w' c hm3 hl) ∧ MS 4 y t TY TV BG j L h hm3 ∧ gT hm hm3 ∧ hm3 224 (32 + 2 * k) = nI (TV (i + 1)) ∧ (∀ k', k' ≠ 32 + 2 * k → hm3 224 k' = hm 224 k')) →
        (∃ j g, mj_dc mj_P E (d + 31) 66 [.ref 159] (mj_hw w' c h hl) = some (some (.int 1), mj_hw w' c g hl) ∧ fT h g ∧ g 169 0 = nI (k + 1) ∧ XS m TY TV BG j L g ∧ iv_ph (g 165) L ≤ j ∧ ∀ hm, MS 4 y t TY TV BG i L h hm → QS k L h hm →
        ((TY j = 3 ∧ TV j = 59 → ∃ hm', mj_dc mj_P E (d' + 9) 201 [.ref 205, .int (nI (32 + 2 * k))] (mj_hw w' c hm hl) = some (some (.int 0), mj_hw w' c hm' hl) ∧ MS 4 y t TY TV BG (j + 1) L g hm' ∧ QS (k + 1) L g hm' ∧ gT hm hm') ∧
         (¬ (TY j = 3 ∧ TV j = 59) → ∃ hm', mj_dc mj_P E (d' + 9) 201 [.ref 205, .int (nI (32 + 2 * k))] (mj_hw w' c hm hl) = some (some (.int (-1)), mj_hw w' c hm' hl) ∧ GT BG hm hm' 1 j))) := fun j g3 z S3 hij fr3 ff3 z1 z60 hcl hrf => by
      have frh : ∀ a k, a ≠ 159 → g3 a k = h a k := fun a k' za => by rw [fr3 a k' za, fr2 a k' za, fr1 a k' za]
      have g0 : g3 169 0 = nI k := by rw [frh _ _ (by omega)]; exact h0
      obtain ⟨gz, hgz⟩ : ∃ gz, gz = mj_u (mj_u (mj_u (mj_u g3 170 k 0) 171 k (nI (TV (i + 1)))) 172 k (nI z)) 169 0 (nI (k + 1)) := ⟨_, rfl⟩
      have ea := p_add (E := E) (d := d + 29) (w' := w') (c := c) (hl := hl) hk g0 0 (nI (TV (i + 1))) (nI z)
      rw [← hgz] at ea
      have fz : ∀ a k', ¬ (169 ≤ a ∧ a ≤ 172) → gz a k' = g3 a k' := fun a k' za => by rw [hgz, mj_u_pt (by omega), mj_u_pt (by omega), mj_u_pt (by omega), mj_u_pt (by omega)]
      have bz : bX h gz L := fun k' _ => ⟨by rw [fz _ _ (by omega), frh _ _ (by omega)], by rw [fz _ _ (by omega), frh _ _ (by omega)]⟩
      refine ⟨j, gz, ?_, fT_t (fT_t (fX_T f1) (fT_t (fX_T f2) (fX_T ff3))) (fun a k' za zb zc => fz a k' zb), by rw [hgz, mj_u_eq], XS_c S3 (fun a k' za => fz a k' (by omega)), by rw [bX_ph bz (Nat.le_refl _)]; omega, fun hm q hq => ?_⟩
      · rw [hcl, q66_52, ea, mj_bv_some, q66_62, if_pos (Or.inr rfl)]
      · obtain ⟨hm3, r1, r2, r3, r4, r5⟩ := hrf hm q
        obtain ⟨hm4, hh4⟩ : ∃ hm4, hm4 = mj_u hm3 224 (32 + 2 * k + 1) (nI z) := ⟨_, rfl⟩
        have q4 : MS 4 y t TY TV BG j L h hm4 := MS_h r2 (fun a k' z => by rw [hh4, mj_u_pt (by omega)])
        have g4 : gT hm hm4 := gT_t r3 (fun a k' z1 z2 z3 z4 z5 z6 z7 => by rw [hh4, mj_u_pt (by omega)])
        have r73 : mj_dc mj_P E (d' + 9) 201 [.ref 205, .int (nI (32 + 2 * k))] (mj_hw w' c hm hl) = mj_bi (mj_dc mj_P E (d' + 8) 199 [.ref 205, .int (nI 59)] (mj_hw w' c hm4 hl)) (fun x1 h1 => mj_den mj_P E (d' + 8) 201 79 [.ref 205, .int (nI (32 + 2 * k))] [.int x1] h1) := by
          rw [r1, q201_56, if_pos c64', mj_nIs, if_pos c64', cc', mj_u_eq, if_pos (nI_n1 (by omega)), ← hh4, q201_73]; rfl
        obtain ⟨px, pn⟩ := p_xpM (E := E) (d := d' + 3) (w' := w') (c := c) (hl := hl) (x := 59) hG q4 S3.2.2.1 (by omega)
        refine ⟨fun hc => ?_, fun hc => ?_⟩
        · obtain ⟨hm5, s1, s2, s3, s4⟩ := px hc
          refine ⟨hm5, by rw [r73, s1, mj_bi_some, q201_79], MS_g' s2 bz, fun i' hi' => ?_, gT_t g4 (fS_T s3)⟩
          have e224 : ∀ k', k' ≠ 32 + 2 * k → k' ≠ 32 + 2 * k + 1 → hm5 224 k' = hm 224 k' := fun k' za zb => by rw [s4 _ _ (by omega), hh4, mj_u_pt (by omega), r5 _ za]
          by_cases hik : i' = k
          · subst hik
            refine ⟨?_, z, z1, z60, ?_, ?_⟩
            · rw [s4 _ _ (by omega), hh4, mj_u_pt (by omega), r4, hgz, mj_u_pt (by omega), mj_u_pt (by omega), mj_u_eq]
            · rw [hgz, mj_u_pt (by omega), mj_u_eq]
            · rw [s4 _ _ (by omega), hh4, mj_u_eq]
          · obtain ⟨a1, y', a2, a3, a4, a5⟩ := hq i' (by omega)
            have eg : ∀ a, 171 ≤ a → a ≤ 172 → gz a i' = h a i' := fun a za zb => by rw [hgz, mj_u_pt (by omega), mj_u_pt (by omega), mj_u_pt (by omega), mj_u_pt (by omega), frh _ _ (by omega)]
            exact ⟨by rw [eg _ (by omega) (by omega), e224 _ (by omega) (by omega)]; exact a1, y', a2, a3, by rw [eg _ (by omega) (by omega)]; exact a4, by rw [e224 _ (by omega) (by omega)]; exact a5⟩
        · obtain ⟨hm5, s1, s2⟩ := pn hc
          exact ⟨hm5, by rw [r73, s1, mj_bi_some, q201_79], GT_t g4 (FM_GT s2)⟩
    by_cases hw : TY (i + 1 + 1) = 2 ∧ TV (i + 1 + 1) = 1
    · rw [if_pos hw] at hc2
      obtain ⟨g3, e3, S3, f3, fr3⟩ := p_stX (E := E) (d := d + 29) (w' := w') (c := c) (hl := hl) hG S2 (tx_lt hG S2.2.2.1 (by omega))
      have hc3 : mj_dc mj_P E (d + 31) 66 [.ref 159] (mj_hw w' c h hl) = mj_bi (mj_dc mj_P E (d + 30) 60 [.ref 159, .int (nI 1), .int (nI 60)] (mj_hw w' c g3 hl)) (fun x1 h2 => mj_den mj_P E (d + 30) 66 47 [.ref 159, .int (nI (TV (i + 1))), .int (g3 159 12)] [.int x1] h2) := by
        rw [hc2, q66_28, if_neg (by decide), e3, mj_bv_some, q66_35]; rfl
      have hr3 : ∀ hm, MS 4 y t TY TV BG i L h hm → ∃ hm3, (∀ v g', mj_dc mj_P E (d' + 7) 198 [.ref 205, .int (nI 1), .int (nI 60)] (mj_hw w' c hm3 hl) = some (some (.int v), mj_hw w' c g' hl) → mj_dc mj_P E (d' + 9) 201 [.ref 205, .int (nI (32 + 2 * k))] (mj_hw w' c hm hl) = mj_den mj_P E (d' + 8) 201 56 [.ref 205, .int (nI (32 + 2 * k))] [.int v, .int (nI (32 + 2 * k + 1)), .ref 224] (mj_hw w' c g' hl)) ∧ MS 4 y t TY TV BG (i + 1 + 1 + 1) L h hm3 ∧ gT hm hm3 ∧ hm3 224 (32 + 2 * k) = nI (TV (i + 1)) ∧ (∀ k', k' ≠ 32 + 2 * k → hm3 224 k' = hm 224 k') := fun hm q => by
        obtain ⟨hm2, r1, r2, r3, r4, r5⟩ := hr2 hm q
        rw [if_pos hw] at r1
        obtain ⟨hm3, q1, x2, x3, x4⟩ := p_200 (E := E) (d := d' + 2) (w' := w') (c := c) (hl := hl) (x := 1) (lo := nI 1) (hi := nI 60) hG r2 S2.2.2.1 (by decide) hw.1 hw.2
        refine ⟨hm3, fun v g' ev => ?_, q1, gT_t r3 (fS_T x2), by rw [x3 _ _ (by omega)]; exact r4, fun k' z => by rw [x3 _ _ (by omega)]; exact r5 k' z⟩
        have k200 : mj_dc mj_P E (d' + 8) 200 [.ref 205, .int 18, .int 1, .int 60] (mj_hw w' c hm2 hl) = some (some (.int v), mj_hw w' c g' hl) := x4 _ _ ev
        rw [r1, q201_40, if_neg (by decide), k200, mj_bi_some, q201_52]
      by_cases ok2 : okN TY TV (i + 1 + 1 + 1) 1 (nI 60)
      · obtain ⟨g4, e4, S4, f4, fr4⟩ := p_nbX (E := E) (d := d + 28) (w' := w') (c := c) (hl := hl) hG S3 (by omega) ok2
        have tv3 := (hG.2.2.2.2.2.2 _ S3.2.2.1).2.1 (by have := ok2.1; omega)
        have v3e : g3 159 12 = nI (TV (i + 1 + 1 + 1)) := S3.2.1.2.2.1 (by have := ok2.1; omega)
        refine Or.inr (hend _ g4 (TV (i + 1 + 1 + 1)) S4 (by omega) (fun a k' za => by rw [fr4 a k' za, fr3 a k' za]) (fX_t f3 f4) ok2.2.1 ((nle7 (by omega) (by omega)).mp ok2.2.2) ?_ (fun hm q => ?_))
        · rw [hc3, e4, mj_bi_some, q66_47, if_pos (by decide), v3e]
        · obtain ⟨hm3, r1, r2, r3, r4, r5⟩ := hr3 hm q
          obtain ⟨hm4, y1, y2, y3, y4⟩ := p_nbM (E := E) (d := d' + 2) (w' := w') (c := c) (hl := hl) hG r2 S3.2.2.1 (by omega) ok2
          exact ⟨hm4, r1 _ _ y1, y2, gT_t r3 (fS_T y3), by rw [y4 _ _ (by omega)]; exact r4, fun k' z => by rw [y4 _ _ (by omega)]; exact r5 k' z⟩
      · obtain ⟨g4, e4, F4⟩ := p_nbXf (E := E) (d := d + 28) (w' := w') (c := c) (hl := hl) hG S3 (by omega) ok2
        refine Or.inl ⟨_, _, g4, ?_, FT_t (fT_t (fX_T f1) (fT_t (fX_T f2) (fX_T f3))) (FX_FT F4), fun hm q hq => ?_⟩
        · rw [hc3, e4, mj_bi_some, q66_47, if_neg (fun z => z rfl), if_pos (Or.inl rfl)]
        · obtain ⟨hm3, r1, r2, r3, r4, r5⟩ := hr3 hm q
          obtain ⟨hm4, y1, y2⟩ := p_nbMf (E := E) (d := d' + 2) (w' := w') (c := c) (hl := hl) hG r2 S3.2.2.1 (by omega) ok2
          refine ⟨mj_u hm4 224 (32 + 2 * k + 1) (-1), ?_, gT_t r3 (gT_t (fS_T y2.1) (fun a k' z1 z2 z3 z4 z5 z6 z7 => by rw [mj_u_pt (by omega)])), by rw [mj_u_pt (by omega)]; exact y2.2.1, by rw [mj_u_pt (by omega)]; exact y2.2.2⟩
          rw [r1 _ _ y1, q201_56, if_pos c64', mj_nIs, if_pos c64', cc', mj_u_eq, if_neg (fun z => z rfl), q201_79]
    · rw [if_neg hw] at hc2
      refine Or.inr (hend _ g2 1 S2 (Nat.le_refl _) (fun a k' za => rfl) (fX_r g2) (by omega) (by omega) ?_ (fun hm q => ?_))
      · rw [hc2, q66_28, if_pos rfl]; rfl
      · obtain ⟨hm2, r1, r2, r3, r4, r5⟩ := hr2 hm q
        rw [if_neg hw] at r1
        exact ⟨hm2, by rw [r1, q201_40, if_pos rfl, q201_55]; rfl, r2, r3, r4, r5⟩
  · obtain ⟨g2, e2, F2⟩ := p_nbXf (E := E) (d := d + 28) (w' := w') (c := c) (hl := hl) hG S1 (by omega) ok1
    refine Or.inl ⟨_, _, g2, ?_, FT_t (fX_T f1) (FX_FT F2), fun hm q hq => ?_⟩
    · rw [hc1, e2, mj_bi_some, q66_16, if_neg (fun z => z rfl), if_pos (Or.inl rfl)]
    · obtain ⟨hm1, q1, x2, x3, x4⟩ := p_200 (E := E) (d := d' + 2) (w' := w') (c := c) (hl := hl) (x := 0) (lo := nI 0) (hi := nI 7) hG q hS.2.2.1 (by decide) h2 hv
      obtain ⟨hm2, y1, y2⟩ := p_nbMf (E := E) (d := d' + 2) (w' := w') (c := c) (hl := hl) hG q1 S1.2.2.1 (by omega) ok1
      have k200 : mj_dc mj_P E (d' + 8) 200 [.ref 205, .int 17, .int 0, .int 7] (mj_hw w' c hm hl) = some (some (.int (-1)), mj_hw w' c hm2 hl) := x4 _ _ y1
      refine ⟨mj_u hm2 224 (32 + 2 * k) (-1), ?_, gT_t (fS_T x2) (gT_t (fS_T y2.1) (fun a k' z1 z2 z3 z4 z5 z6 z7 => by rw [mj_u_pt (by omega)])), by rw [mj_u_pt (by omega)]; exact y2.2.1, by rw [mj_u_pt (by omega)]; exact y2.2.2⟩
      rw [e201, q201_0, k200, mj_bi_some, q201_14, if_pos c64, if_pos c64, cc, mj_u_eq, if_neg (fun z => z rfl)]
end MJZ22
