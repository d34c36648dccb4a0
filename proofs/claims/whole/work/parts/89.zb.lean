section MJZ12
variable {E : mj_E} {d d' w' c : Nat} {hl : Nat → Nat → Int64} {y TY TV BG : Nat → Nat} {t m e : Nat}
/-- what the sum's sign is: 0 none, 1 plus, 2 minus -/
theorem s_sumL {L0 : Nat} (hG : txG 3 y t m TY TV BG) : ∀ f j L h q (v1 : Int32) (u1 : Value), m - j ≤ f → XS m TY TV BG j L h → iv_ph (h 165) L + e ≤ j → L0 ≤ L → tyd (h 165) L0 L 28 false → q ≤ j → OUT 3 y t m TY TV BG w' c hl e h j L (fun g L' => tyd (g 165) L0 L' 28 false) (mj_den mj_P E (d + 2) 64 34 [.ref 159, .int v1, .int (nI q)] [] (mj_hw w' c h hl)) (fun hm => mj_den mj_P E (d' + 6) 190 10 [.ref 205, u1] [] (mj_hw w' c hm hl)) := by
  obtain ⟨_, t400, mt, _, hnz, hmz, htv⟩ := id hG
  intro f
  induction f with
  | zero =>
    intro j L h q v1 u1 hf hS hcap hL0 hty hq
    have hjm : j = m := by have := hS.2.2.1; omega
    have n3 : ∀ x, ¬ (TY j = 3 ∧ TV j = x) := fun x z => by rw [hjm, hmz] at z; omega
    have X43 : mj_dc mj_P E (d + 2) 56 [.ref 159, .int 43] (mj_hw w' c h hl) = _ := s_sgX (d := d + 1) (x := 43) hG hS.2.2.1 hS.2.1 (by omega)
    have X45 : mj_dc mj_P E (d + 2) 56 [.ref 159, .int 45] (mj_hw w' c h hl) = _ := s_sgX (d := d + 1) (x := 45) hG hS.2.2.1 hS.2.1 (by omega)
    rw [if_neg (n3 43)] at X43
    rw [if_neg (n3 45)] at X45
    refine Or.inr ⟨j, L, h, ?_, fX_r h, bX_r h L, hS, Nat.le_refl _, Nat.le_refl _, hcap, hty, fun hm qm => ⟨hm, ?_, fS_r hm, qm⟩⟩
    · rw [q64_34, X43, mj_bi_some, q64_40, if_pos rfl, q64_48, X45, mj_bi_some, q64_54, if_pos rfl, q64_62, q64_63, if_neg (fun z => z rfl), if_pos (Or.inr rfl)]
    · have M43 : mj_dc mj_P E (d' + 6) 185 [.ref 205, .int 43] (mj_hw w' c hm hl) = _ := s_sgM (d := d' + 5) (x := 43) hG hS.2.2.1 qm.2.1 (by omega)
      have M45 : mj_dc mj_P E (d' + 6) 185 [.ref 205, .int 45] (mj_hw w' c hm hl) = _ := s_sgM (d := d' + 5) (x := 45) hG hS.2.2.1 qm.2.1 (by omega)
      rw [if_neg (n3 43)] at M43
      rw [if_neg (n3 45)] at M45
      show mj_den mj_P E (d' + 6) 190 10 [.ref 205, u1] [] (mj_hw w' c hm hl) = _
      rw [g190_10, M43, mj_bi_some, g190_16, if_neg (fun z => z rfl), M45, mj_bi_some, g190_25, if_pos rfl, g190_66]
  | succ f ih =>
    intro j L h q v1 u1 hf hS hcap hL0 hty hq
    have X43 : mj_dc mj_P E (d + 2) 56 [.ref 159, .int 43] (mj_hw w' c h hl) = _ := s_sgX (d := d + 1) (x := 43) hG hS.2.2.1 hS.2.1 (by omega)
    have X45 : mj_dc mj_P E (d + 2) 56 [.ref 159, .int 45] (mj_hw w' c h hl) = _ := s_sgX (d := d + 1) (x := 45) hG hS.2.2.1 hS.2.1 (by omega)
    have hM43 : ∀ hm, MS 3 y t TY TV BG j L h hm → mj_dc mj_P E (d' + 6) 185 [.ref 205, .int 43] (mj_hw w' c hm hl) = some (some (.int (if TY j = 3 ∧ TV j = 43 then 1 else 0)), mj_hw w' c hm hl) := fun hm qm => s_sgM (d := d' + 5) (x := 43) hG hS.2.2.1 qm.2.1 (by omega)
    have hM45 : ∀ hm, MS 3 y t TY TV BG j L h hm → mj_dc mj_P E (d' + 6) 185 [.ref 205, .int 45] (mj_hw w' c hm hl) = some (some (.int (if TY j = 3 ∧ TV j = 45 then 1 else 0)), mj_hw w' c hm hl) := fun hm qm => s_sgM (d := d' + 5) (x := 45) hG hS.2.2.1 qm.2.1 (by omega)
    have hjle := hS.2.2.1
    by_cases hany : TY j = 3 ∧ (TV j = 43 ∨ TV j = 45)
    · have hjm : j < m := by
        rcases Nat.lt_or_ge j m with z | z
        · exact z
        · have := hany.1; rw [show j = m by omega, hmz] at this; omega
      obtain ⟨h1, e1, S1, f1, fr1⟩ := p_stX (E := E) (d := d + 1) (w' := w') (c := c) (hl := hl) hG hS hjm
      have b1 : bX h h1 L := fun k _ => ⟨fr1 _ _ (by omega), fr1 _ _ (by omega)⟩
      have ph1 : iv_ph (h1 165) L = iv_ph (h 165) L := bX_ph b1 (Nat.le_refl _)
      -- the sign as a code of both
      obtain ⟨op, rop, hop, hcls, href⟩ : ∃ op rop : Int32, ((op = 11 ∧ rop = 2) ∨ (op = 12 ∧ rop = 3)) ∧ mj_den mj_P E (d + 2) 64 34 [.ref 159, .int v1, .int (nI q)] [] (mj_hw w' c h hl) = mj_den mj_P E (d + 2) 64 4 [.ref 159, .int op, .int (nI (q + 1))] [] (mj_hw w' c h1 hl) ∧ ∀ hm, MS 3 y t TY TV BG j L h hm → ∃ hm1, mj_den mj_P E (d' + 6) 190 10 [.ref 205, u1] [] (mj_hw w' c hm hl) = mj_den mj_P E (d' + 6) 190 47 [.ref 205, .int rop] [] (mj_hw w' c hm1 hl) ∧ fS hm hm1 ∧ MS 3 y t TY TV BG (j + 1) L h hm1 := by
        by_cases s43 : TV j = 43
        · rw [if_pos ⟨hany.1, s43⟩] at X43
          refine ⟨11, 2, Or.inl ⟨rfl, rfl⟩, ?_, fun hm qm => ?_⟩
          · rw [q64_34, X43, mj_bi_some, q64_40, if_neg (by decide), q64_63, if_pos (by decide), q64_71, e1, mj_bv_some, q64_75, mj_nIs]
          · have M43 := hM43 hm qm
            rw [if_pos ⟨hany.1, s43⟩] at M43
            obtain ⟨hm1, k1, k2, k3, k4⟩ := p_stM (E := E) (d := d' + 2) (w' := w') (c := c) (hl := hl) hG qm hjm
            have hv := (rtk_tok qm.2.1.2.2).2.2.2.2.2 hany.1
            refine ⟨hm1, ?_, k3, k2⟩
            rw [g190_10, M43, mj_bi_some, g190_16, if_pos (by decide), g190_28, hv, s43, if_neg (fun z => z rfl), g190_42, k1, mj_bv_some]
        · have s45 : TV j = 45 := hany.2.resolve_left s43
          rw [if_neg (fun z => s43 z.2)] at X43
          rw [if_pos ⟨hany.1, s45⟩] at X45
          refine ⟨12, 3, Or.inr ⟨rfl, rfl⟩, ?_, fun hm qm => ?_⟩
          · rw [q64_34, X43, mj_bi_some, q64_40, if_pos rfl, q64_48, X45, mj_bi_some, q64_54, if_neg (by decide), q64_63, if_pos (by decide), q64_71, e1, mj_bv_some, q64_75, mj_nIs]
          · have M43 := hM43 hm qm
            have M45 := hM45 hm qm
            rw [if_neg (fun z => s43 z.2)] at M43
            rw [if_pos ⟨hany.1, s45⟩] at M45
            obtain ⟨hm1, k1, k2, k3, k4⟩ := p_stM (E := E) (d := d' + 2) (w' := w') (c := c) (hl := hl) hG qm hjm
            have hv := (rtk_tok qm.2.1.2.2).2.2.2.2.2 hany.1
            refine ⟨hm1, ?_, k3, k2⟩
            rw [g190_10, M43, mj_bi_some, g190_16, if_neg (fun z => z rfl), M45, mj_bi_some, g190_25, if_neg (by decide), g190_28, hv, s45, if_pos (by decide), g190_41, g190_42, k1, mj_bv_some]
      have n4 : ¬ (400 : Int32) < nI (q + 1) := by rw [show (400 : Int32) = nI 400 from rfl, mj_nIlt (by omega) (by omega)]; omega
      have hopn : ¬ op = -1 ∧ ¬ op = 14 := by rcases hop with ⟨z, _⟩ | ⟨z, _⟩ <;> (rw [z]; decide)
      have hms1 : ∀ hm1, MS 3 y t TY TV BG (j + 1) L h hm1 → MS 3 y t TY TV BG (j + 1) L h1 hm1 := fun hm1 z => ⟨z.1, z.2.1, cdr_c z.2.2 b1 (fun _ _ _ => rfl) rfl⟩
      rcases s_term (E := E) (d := d) (d' := d') (w' := w') (c := c) (hl := hl) (e := e + 1) hG S1 (by omega) with ⟨f', j', g, o1, o2, o3⟩ | ⟨j', L', g, o1, o2, o3, o4, o5, o6, o7, o8, o9⟩
      · refine Or.inl ⟨f', j', g, ?_, FX_t f1 b1 (Nat.le_refl _) o2, fun hm qm => ?_⟩
        · rw [hcls, q64_4, if_neg n4, o1, mj_bi_some, q64_15, if_neg (fun z => z rfl), if_pos (Or.inl rfl)]
        · obtain ⟨hm1, r1, r2, r3⟩ := href hm qm
          obtain ⟨hm2, r4, r5⟩ := o3 hm1 (hms1 hm1 r3)
          simp only at r4
          refine ⟨hm2, ?_, FM_t r2 r5⟩
          show mj_den mj_P E (d' + 6) 190 10 [.ref 205, u1] [] (mj_hw w' c hm hl) = _
          rw [r1, g190_47, r4, mj_bi_some, g190_51, if_neg (fun z => z rfl)]
      · have hLge := iv_ph_ge (g 165) L'
        have hj'm := o4.2.2.1
        obtain ⟨g2, eg, gS, gf, gb, g21, g22, g23⟩ := p_emX (E := E) (d := d + 1) (w' := w') (c := c) (hl := hl) o4 (by omega) op 0
        have bg : bX h g L := bX_t b1 o3 (Nat.le_refl _)
        have bg2 : bX h g2 L := bX_t bg gb o6
        have p2 : iv_ph (g2 165) (L' + 1) = iv_ph (g 165) L' + 1 := by rw [iv_ph_s, g21, if_neg hopn.2, bX_ph gb (Nat.le_refl _)]
        have tg : tyd (g2 165) L0 (L' + 1) 28 false := tyd_b (tyd_c hty (fun k z1 z2 => (bg2 k z2).1)) (tyd_c o8 (fun k z1 z2 => (gb k z2).1)) hL0 o6 (by omega) (fun r => by rw [g21]; rcases hop with ⟨z, _⟩ | ⟨z, _⟩ <;> (rw [z]; rfl))
        refine OUT_pre (fX_t f1 (fX_t o2 gf)) bg2 (by omega) (show j ≤ j' by omega) ?_ (fun hm qm => ?_) (ih j' (L' + 1) g2 (q + 1) op (.int rop) (by omega) gS (by omega) (by omega) tg (by omega))
        · rw [hcls, q64_4, if_neg n4, o1, mj_bi_some, q64_15, if_pos (by decide), q64_20, if_neg hopn.1, eg, mj_bv_some]
        · obtain ⟨hm1, r1, r2, r3⟩ := href hm qm
          obtain ⟨hm2, r4, r5, r6⟩ := o9 hm1 (hms1 hm1 r3)
          simp only at r4
          obtain ⟨hm3, r7, r8, r9, _⟩ := p_emM (E := E) (d := d' + 5) (w' := w') (c := c) (hl := hl) (g' := g2) (v1 := rop) (v2 := 0) r6 (by omega) gb (by rw [g21]; exact hopn.2) (fun mo ma z1 z2 => by
            rw [g21]
            rcases hop with ⟨z, z'⟩ | ⟨z, z'⟩
            · exact Or.inr (Or.inr (Or.inr (Or.inl ⟨z, by rw [z1, z']⟩)))
            · exact Or.inr (Or.inr (Or.inr (Or.inr (Or.inl ⟨z, by rw [z1, z']⟩)))))
          refine ⟨hm3, ?_, fS_t r2 (fS_t r5 r9), r8⟩
          show mj_den mj_P E (d' + 6) 190 10 [.ref 205, u1] [] (mj_hw w' c hm hl) = _
          rw [r1, g190_47, r4, mj_bi_some, g190_51, if_pos (by decide), g190_57, r7, mj_bv_some, g190_63]
    · have s43 : ¬ (TY j = 3 ∧ TV j = 43) := fun z => hany ⟨z.1, Or.inl z.2⟩
      have s45 : ¬ (TY j = 3 ∧ TV j = 45) := fun z => hany ⟨z.1, Or.inr z.2⟩
      rw [if_neg s43] at X43
      rw [if_neg s45] at X45
      refine Or.inr ⟨j, L, h, ?_, fX_r h, bX_r h L, hS, Nat.le_refl _, Nat.le_refl _, hcap, hty, fun hm qm => ⟨hm, ?_, fS_r hm, qm⟩⟩
      · rw [q64_34, X43, mj_bi_some, q64_40, if_pos rfl, q64_48, X45, mj_bi_some, q64_54, if_pos rfl, q64_62, q64_63, if_neg (fun z => z rfl), if_pos (Or.inr rfl)]
      · have M43 := hM43 hm qm
        have M45 := hM45 hm qm
        rw [if_neg s43] at M43
        rw [if_neg s45] at M45
        show mj_den mj_P E (d' + 6) 190 10 [.ref 205, u1] [] (mj_hw w' c hm hl) = _
        rw [g190_10, M43, mj_bi_some, g190_16, if_neg (fun z => z rfl), M45, mj_bi_some, g190_25, if_pos rfl, g190_66]
theorem s_sum {j L : Nat} {h : mj_HI} (hG : txG 3 y t m TY TV BG) (hS : XS m TY TV BG j L h) (hcap : iv_ph (h 165) L + e ≤ j) : OUT 3 y t m TY TV BG w' c hl e h j L (fun g L' => tyd (g 165) L L' 28 false) (mj_dc mj_P E (d + 3) 64 [.ref 159] (mj_hw w' c h hl)) (fun hm => mj_dc mj_P E (d' + 7) 190 [.ref 205] (mj_hw w' c hm hl)) := by
  obtain ⟨_, t400, mt, _, hnz, hmz, htv⟩ := id hG
  have hjle := hS.2.2.1
  have n4 : ¬ (400 : Int32) < nI 0 := by decide
  rcases s_term (E := E) (d := d) (d' := d') (w' := w') (c := c) (hl := hl) (e := e) hG hS hcap with ⟨f', j', g, o1, o2, o3⟩ | ⟨j', L', g, o1, o2, o3, o4, o5, o6, o7, o8, o9⟩
  · refine Or.inl ⟨f', j', g, ?_, o2, fun hm qm => ?_⟩
    · rw [e64, q64_0]
      show mj_den mj_P E (d + 2) 64 4 [.ref 159, .int (-1), .int (nI 0)] [] (mj_hw w' c h hl) = _
      rw [q64_4, if_neg n4, o1, mj_bi_some, q64_15, if_neg (fun z => z rfl), if_pos (Or.inl rfl)]
    · obtain ⟨hm2, r4, r5⟩ := o3 hm qm
      simp only at r4
      refine ⟨hm2, ?_, r5⟩
      show mj_dc mj_P E (d' + 7) 190 [.ref 205] (mj_hw w' c hm hl) = _
      rw [xg190, g190_0, r4, mj_bi_some, g190_4, if_neg (fun z => z rfl)]
  · refine OUT_pre o2 o3 o6 o5 ?_ (fun hm qm => ?_) (s_sumL (E := E) (d := d) (d' := d') (w' := w') (c := c) (hl := hl) (e := e) (L0 := L) hG m j' L' g 0 (-1) (.float 0) (by omega) o4 o7 o6 (tyd_m o8 (by omega)) (by omega))
    · rw [e64, q64_0]
      show mj_den mj_P E (d + 2) 64 4 [.ref 159, .int (-1), .int (nI 0)] [] (mj_hw w' c h hl) = _
      rw [q64_4, if_neg n4, o1, mj_bi_some, q64_15, if_pos (by decide), q64_20, if_pos rfl]
    · obtain ⟨hm2, r4, r5, r6⟩ := o9 hm qm
      simp only at r4
      refine ⟨hm2, ?_, r5, r6⟩
      show mj_dc mj_P E (d' + 7) 190 [.ref 205] (mj_hw w' c hm hl) = _
      rw [xg190, g190_0, r4, mj_bi_some, g190_4, if_pos (by decide)]
/-- a comparison of both -/
theorem s_cmp {j L : Nat} {h : mj_HI} (hG : txG 3 y t m TY TV BG) (hS : XS m TY TV BG j L h) (hcap : iv_ph (h 165) L + e ≤ j) (v1 v2 : Int32) : OUT 3 y t m TY TV BG w' c hl e h j L (fun g L' => tyd (g 165) L L' 27 true) (mj_den mj_P E (d + 3) 63 96 [.ref 159, .int v1, .int v2, .float 0] [] (mj_hw w' c h hl)) (fun hm => mj_dc mj_P E (d' + 8) 191 [.ref 205] (mj_hw w' c hm hl)) := by
  obtain ⟨_, t400, mt, _, hnz, hmz, htv⟩ := id hG
  rcases s_sum (E := E) (d := d) (d' := d') (w' := w') (c := c) (hl := hl) (e := e) hG hS hcap with ⟨f', j', g, o1, o2, o3⟩ | ⟨j', L', g, o1, o2, o3, o4, o5, o6, o7, o8, o9⟩
  · refine Or.inl ⟨f', j', g, ?_, o2, fun hm qm => ?_⟩
    · rw [q63_96, o1, mj_bi_some, q63_100, if_neg (fun z => z rfl), if_pos (Or.inl rfl)]
    · obtain ⟨hm2, r4, r5⟩ := o3 hm qm
      simp only at r4
      refine ⟨hm2, ?_, r5⟩
      show mj_dc mj_P E (d' + 8) 191 [.ref 205] (mj_hw w' c hm hl) = _
      rw [e191, q191_0, r4, mj_bi_some, q191_4, if_neg (fun z => z rfl)]
  · have hj'm := o4.2.2.1
    have X60 : mj_dc mj_P E (d + 3) 56 [.ref 159, .int 60] (mj_hw w' c g hl) = _ := s_sgX (d := d + 2) (x := 60) hG hj'm o4.2.1 (by omega)
    have X61 : mj_dc mj_P E (d + 3) 56 [.ref 159, .int 61] (mj_hw w' c g hl) = _ := s_sgX (d := d + 2) (x := 61) hG hj'm o4.2.1 (by omega)
    have X62 : mj_dc mj_P E (d + 3) 56 [.ref 159, .int 62] (mj_hw w' c g hl) = _ := s_sgX (d := d + 2) (x := 62) hG hj'm o4.2.1 (by omega)
    have M60 : ∀ hm2, MS 3 y t TY TV BG j' L' g hm2 → mj_dc mj_P E (d' + 7) 185 [.ref 205, .int 60] (mj_hw w' c hm2 hl) = some (some (.int (if TY j' = 3 ∧ TV j' = 60 then 1 else 0)), mj_hw w' c hm2 hl) := fun hm2 q2 => s_sgM (d := d' + 6) (x := 60) hG hj'm q2.2.1 (by omega)
    have M61 : ∀ hm2, MS 3 y t TY TV BG j' L' g hm2 → mj_dc mj_P E (d' + 7) 185 [.ref 205, .int 61] (mj_hw w' c hm2 hl) = some (some (.int (if TY j' = 3 ∧ TV j' = 61 then 1 else 0)), mj_hw w' c hm2 hl) := fun hm2 q2 => s_sgM (d := d' + 6) (x := 61) hG hj'm q2.2.1 (by omega)
    have M62 : ∀ hm2, MS 3 y t TY TV BG j' L' g hm2 → mj_dc mj_P E (d' + 7) 185 [.ref 205, .int 62] (mj_hw w' c hm2 hl) = some (some (.int (if TY j' = 3 ∧ TV j' = 62 then 1 else 0)), mj_hw w' c hm2 hl) := fun hm2 q2 => s_sgM (d := d' + 6) (x := 62) hG hj'm q2.2.1 (by omega)
    have ecls : mj_den mj_P E (d + 3) 63 96 [.ref 159, .int v1, .int v2, .float 0] [] (mj_hw w' c h hl) = mj_den mj_P E (d + 3) 63 105 [.ref 159, .int v1, .int v2, .float 0] [] (mj_hw w' c g hl) := by
      rw [q63_96, o1, mj_bi_some, q63_100, if_pos (by decide)]
    have eref : ∀ hm, MS 3 y t TY TV BG j L h hm → ∃ hm2, mj_dc mj_P E (d' + 8) 191 [.ref 205] (mj_hw w' c hm hl) = mj_den mj_P E (d' + 7) 191 10 [.ref 205, .float 0] [] (mj_hw w' c hm2 hl) ∧ fS hm hm2 ∧ MS 3 y t TY TV BG j' L' g hm2 := fun hm qm => by
      obtain ⟨hm2, r4, r5, r6⟩ := o9 hm qm
      simp only at r4
      exact ⟨hm2, by rw [e191, q191_0, r4, mj_bi_some, q191_4, if_pos (by decide)], r5, r6⟩
    by_cases hany : TY j' = 3 ∧ (TV j' = 60 ∨ TV j' = 61 ∨ TV j' = 62)
    · obtain ⟨op, rop, hop, hcls, href⟩ : ∃ op rop : Int32, ((op = 15 ∧ rop = 6) ∨ (op = 16 ∧ rop = 7) ∨ (op = 17 ∧ rop = 8)) ∧ mj_den mj_P E (d + 3) 63 105 [.ref 159, .int v1, .int v2, .float 0] [] (mj_hw w' c g hl) = mj_den mj_P E (d + 3) 63 148 [.ref 159, .int v1, .int v2, .float 0] [.int op] (mj_hw w' c g hl) ∧ ∀ hm2, MS 3 y t TY TV BG j' L' g hm2 → mj_den mj_P E (d' + 7) 191 10 [.ref 205, .float 0] [] (mj_hw w' c hm2 hl) = mj_den mj_P E (d' + 7) 191 73 [.ref 205, .float 0] [.int rop] (mj_hw w' c hm2 hl) := by
        by_cases s60 : TV j' = 60
        · rw [if_pos ⟨hany.1, s60⟩] at X60
          refine ⟨15, 6, Or.inl ⟨rfl, rfl⟩, by rw [q63_105, X60, mj_bi_some, q63_111, if_neg (by decide)], fun hm2 q2 => ?_⟩
          have k60 := M60 hm2 q2
          rw [if_pos ⟨hany.1, s60⟩] at k60
          have hv := (rtk_tok q2.2.1.2.2).2.2.2.2.2 hany.1
          rw [q191_10, k60, mj_bi_some, q191_16, if_pos (by decide), q191_43, hv, s60, if_neg (fun z => z rfl)]
        · rw [if_neg (fun z => s60 z.2)] at X60
          by_cases s61 : TV j' = 61
          · rw [if_pos ⟨hany.1, s61⟩] at X61
            refine ⟨16, 7, Or.inr (Or.inl ⟨rfl, rfl⟩), by rw [q63_105, X60, mj_bi_some, q63_111, if_pos rfl, q63_119, X61, mj_bi_some, q63_125, if_neg (by decide)], fun hm2 q2 => ?_⟩
            have k60 := M60 hm2 q2
            have k61 := M61 hm2 q2
            rw [if_neg (fun z => s60 z.2)] at k60
            rw [if_pos ⟨hany.1, s61⟩] at k61
            have hv := (rtk_tok q2.2.1.2.2).2.2.2.2.2 hany.1
            rw [q191_10, k60, mj_bi_some, q191_16, if_neg (fun z => z rfl), k61, mj_bi_some, q191_25, if_pos (by decide), q191_43, hv, s61, if_pos (by decide), q191_57, hv, s61, if_neg (fun z => z rfl)]
          · have s62 : TV j' = 62 := by have := hany.2; omega
            rw [if_neg (fun z => s61 z.2)] at X61
            rw [if_pos ⟨hany.1, s62⟩] at X62
            refine ⟨17, 8, Or.inr (Or.inr ⟨rfl, rfl⟩), by rw [q63_105, X60, mj_bi_some, q63_111, if_pos rfl, q63_119, X61, mj_bi_some, q63_125, if_pos rfl, q63_133, X62, mj_bi_some, q63_139, if_neg (by decide)], fun hm2 q2 => ?_⟩
            have k60 := M60 hm2 q2
            have k61 := M61 hm2 q2
            have k62 := M62 hm2 q2
            rw [if_neg (fun z => s60 z.2)] at k60
            rw [if_neg (fun z => s61 z.2)] at k61
            rw [if_pos ⟨hany.1, s62⟩] at k62
            have hv := (rtk_tok q2.2.1.2.2).2.2.2.2.2 hany.1
            rw [q191_10, k60, mj_bi_some, q191_16, if_neg (fun z => z rfl), k61, mj_bi_some, q191_25, if_neg (fun z => z rfl), k62, mj_bi_some, q191_34, if_pos (by decide), q191_43, hv, s62, if_pos (by decide), q191_57, hv, s62, if_pos (by decide), q191_71]
      have hjm : j' < m := by
        rcases Nat.lt_or_ge j' m with z | z
        · exact z
        · have := hany.1; rw [show j' = m by omega, hmz] at this; omega
      have hopn : ¬ op = -1 ∧ ¬ op = 14 := by rcases hop with ⟨z, _⟩ | ⟨z, _⟩ | ⟨z, _⟩ <;> (rw [z]; decide)
      obtain ⟨h1, e1, S1, f1, fr1⟩ := p_stX (E := E) (d := d + 2) (w' := w') (c := c) (hl := hl) hG o4 hjm
      have b1 : bX g h1 L' := fun k _ => ⟨fr1 _ _ (by omega), fr1 _ _ (by omega)⟩
      have ph1 : iv_ph (h1 165) L' = iv_ph (g 165) L' := bX_ph b1 (Nat.le_refl _)
      have bh : bX h h1 L := bX_t o3 b1 o6
      rcases s_sum (E := E) (d := d) (d' := d') (w' := w') (c := c) (hl := hl) (e := e + 1) hG S1 (by omega) with ⟨f', j2, g2, p1, p2, p3⟩ | ⟨j2, L2, g2, p1, p2, p3, p4, p5, p6, p7, p8, p9⟩
      · refine Or.inl ⟨f', j2, g2, ?_, FX_t (fX_t o2 f1) bh o6 p2, fun hm qm => ?_⟩
        · rw [ecls, hcls, q63_148, if_pos hopn.1, q63_160, e1, mj_bv_some, q63_164, p1, mj_bi_some, q63_168, if_neg (fun z => z rfl), if_pos (Or.inl rfl)]
        · obtain ⟨hm2, r1, r2, r3⟩ := eref hm qm
          obtain ⟨hm3, k1, k2, k3, k4⟩ := p_stM (E := E) (d := d' + 3) (w' := w') (c := c) (hl := hl) hG r3 hjm
          obtain ⟨hm4, r4, r5⟩ := p3 hm3 ⟨k2.1, k2.2.1, cdr_c k2.2.2 b1 (fun _ _ _ => rfl) rfl⟩
          simp only at r4
          refine ⟨hm4, ?_, FM_t (fS_t r2 k3) r5⟩
          show mj_dc mj_P E (d' + 8) 191 [.ref 205] (mj_hw w' c hm hl) = _
          rw [r1, href hm2 r3, q191_73, k1, mj_bv_some, q191_78, r4, mj_bi_some, q191_82, if_neg (fun z => z rfl)]
      · have hLge := iv_ph_ge (g2 165) L2
        have hj2m := p4.2.2.1
        obtain ⟨g3, eg, gS, gf, gb, g31, g32, g33⟩ := p_emX (E := E) (d := d + 2) (w' := w') (c := c) (hl := hl) p4 (by omega) op 0
        have bg2 : bX h g2 L := bX_t bh p3 o6
        have bg3 : bX h g3 L := bX_t bg2 gb (by omega)
        have b13 : bX g g3 L' := bX_t b1 (bX_t p3 gb (by omega)) (Nat.le_refl _)
        have q2 : iv_ph (g3 165) (L2 + 1) = iv_ph (g2 165) L2 + 1 := by rw [iv_ph_s, g31, if_neg hopn.2, bX_ph gb (Nat.le_refl _)]
        have tg : tyd (g3 165) L (L2 + 1) 27 true := tyd_b (tyd_m (tyd_c o8 (fun k z1 z2 => (b13 k z2).1)) (by omega)) (tyd_c p8 (fun k z1 z2 => (gb k z2).1)) o6 p6 (by omega) (fun r => by rw [g31]; rcases hop with ⟨z, _⟩ | ⟨z, _⟩ | ⟨z, _⟩ <;> (rw [z]; rfl))
        refine Or.inr ⟨j2, L2 + 1, g3, ?_, fX_t o2 (fX_t f1 (fX_t p2 gf)), bg3, gS, by omega, by omega, by omega, tg, fun hm qm => ?_⟩
        · rw [ecls, hcls, q63_148, if_pos hopn.1, q63_160, e1, mj_bv_some, q63_164, p1, mj_bi_some, q63_168, if_pos (by decide), q63_173, eg, mj_bv_some, q63_182, if_pos (Or.inr rfl)]
        · obtain ⟨hm2, r1, r2, r3⟩ := eref hm qm
          obtain ⟨hm3, k1, k2, k3, k4⟩ := p_stM (E := E) (d := d' + 3) (w' := w') (c := c) (hl := hl) hG r3 hjm
          obtain ⟨hm4, r4, r5, r6⟩ := p9 hm3 ⟨k2.1, k2.2.1, cdr_c k2.2.2 b1 (fun _ _ _ => rfl) rfl⟩
          simp only at r4
          obtain ⟨hm5, r7, r8, r9, _⟩ := p_emM (E := E) (d := d' + 6) (w' := w') (c := c) (hl := hl) (g' := g3) (v1 := rop) (v2 := 0) r6 (by omega) gb (by rw [g31]; exact hopn.2) (fun mo ma z1 z2 => by
            rw [g31]
            rcases hop with ⟨z, z'⟩ | ⟨z, z'⟩ | ⟨z, z'⟩
            · exact Or.inr (Or.inr (Or.inr (Or.inr (Or.inr (Or.inr (Or.inl ⟨z, by rw [z1, z']⟩))))))
            · exact Or.inr (Or.inr (Or.inr (Or.inr (Or.inr (Or.inr (Or.inr (Or.inl ⟨z, by rw [z1, z']⟩)))))))
            · exact Or.inr (Or.inr (Or.inr (Or.inr (Or.inr (Or.inr (Or.inr (Or.inr (Or.inl ⟨z, by rw [z1, z']⟩)))))))))
          refine ⟨hm5, ?_, fS_t r2 (fS_t k3 (fS_t r5 r9)), r8⟩
          show mj_dc mj_P E (d' + 8) 191 [.ref 205] (mj_hw w' c hm hl) = _
          rw [r1, href hm2 r3, q191_73, k1, mj_bv_some, q191_78, r4, mj_bi_some, q191_82, if_pos (by decide), q191_88, r7, mj_bv_some, q191_94]
    · have s60 : ¬ (TY j' = 3 ∧ TV j' = 60) := fun z => hany ⟨z.1, Or.inl z.2⟩
      have s61 : ¬ (TY j' = 3 ∧ TV j' = 61) := fun z => hany ⟨z.1, Or.inr (Or.inl z.2)⟩
      have s62 : ¬ (TY j' = 3 ∧ TV j' = 62) := fun z => hany ⟨z.1, Or.inr (Or.inr z.2)⟩
      rw [if_neg s60] at X60
      rw [if_neg s61] at X61
      rw [if_neg s62] at X62
      obtain ⟨gw, ew, Fw⟩ := p_wrX (E := E) (d := d + 2) (w' := w') (c := c) (hl := hl) (f := 1) o4
      have ew' : mj_dc mj_P E (d + 3) 58 [.ref 159, .int 1] (mj_hw w' c g hl) = some (some (.int 0), mj_hw w' c gw hl) := ew
      refine Or.inl ⟨1, j', gw, ?_, FX_t o2 o3 o6 Fw, fun hm qm => ?_⟩
      · rw [ecls, q63_105, X60, mj_bi_some, q63_111, if_pos rfl, q63_119, X61, mj_bi_some, q63_125, if_pos rfl, q63_133, X62, mj_bi_some, q63_139, if_pos rfl, q63_147, q63_148, if_neg (fun z => z rfl), ew', mj_bi_some, q63_159, if_pos (Or.inl rfl)]
      · obtain ⟨hm2, r1, r2, r3⟩ := eref hm qm
        have k60 := M60 hm2 r3
        have k61 := M61 hm2 r3
        have k62 := M62 hm2 r3
        rw [if_neg s60] at k60
        rw [if_neg s61] at k61
        rw [if_neg s62] at k62
        obtain ⟨hm3, r4, r5⟩ := p_erM (E := E) (d := d' + 6) (w' := w') (c := c) (hl := hl) (f := 1) r3
        have r4' : mj_dc mj_P E (d' + 7) 183 [.ref 205, .int 1] (mj_hw w' c hm2 hl) = some (some (.int (-1)), mj_hw w' c hm3 hl) := r4
        refine ⟨hm3, ?_, FM_t r2 r5⟩
        show mj_dc mj_P E (d' + 8) 191 [.ref 205] (mj_hw w' c hm hl) = _
        rw [r1, q191_10, k60, mj_bi_some, q191_16, if_neg (fun z => z rfl), k61, mj_bi_some, q191_25, if_neg (fun z => z rfl), k62, mj_bi_some, q191_34, if_neg (fun z => z rfl), r4', mj_bi_some, q191_42]
end MJZ12
