/-- a parser of the class and its like: they fail alike, or go on alike -/
def OUT (w : Nat) (y : Nat → Nat) (t m : Nat) (TY TV BG : Nat → Nat) (w' c : Nat) (hl : Nat → Nat → Int64) (e : Nat) (h : mj_HI) (j L : Nat) (T : mj_HI → Nat → Prop) (cls : mj_R) (rr : mj_HI → mj_R) : Prop :=
  (∃ f j' g, cls = some (some (.int 0), mj_hw w' c g hl) ∧ FX BG h g L f j' ∧ ∀ hm, MS w y t TY TV BG j L h hm → ∃ hm', rr hm = some (some (.int (-1)), mj_hw w' c hm' hl) ∧ FM BG hm hm' f j') ∨ (∃ j' L' g, cls = some (some (.int 1), mj_hw w' c g hl) ∧ fX h g ∧ bX h g L ∧ XS m TY TV BG j' L' g ∧ j ≤ j' ∧ L ≤ L' ∧ iv_ph (g 165) L' + e ≤ j' ∧ T g L' ∧ ∀ hm, MS w y t TY TV BG j L h hm → ∃ hm', rr hm = some (some (.int 0), mj_hw w' c hm' hl) ∧ fS hm hm' ∧ MS w y t TY TV BG j' L' g hm')
section MJZ11
variable {E : mj_E} {d d' w w' c : Nat} {hl : Nat → Nat → Int64} {y TY TV BG : Nat → Nat} {t m e : Nat}
theorem OUT_pre {h0 h : mj_HI} {j0 j L0 L : Nat} {T : mj_HI → Nat → Prop} {cls0 cls : mj_R} {rr0 rr : mj_HI → mj_R} (p : fX h0 h) (b : bX h0 h L0) (hL : L0 ≤ L) (hj : j0 ≤ j) (hcls : cls0 = cls) (hr : ∀ hm0, MS w y t TY TV BG j0 L0 h0 hm0 → ∃ hm, rr0 hm0 = rr hm ∧ fS hm0 hm ∧ MS w y t TY TV BG j L h hm) (o : OUT w y t m TY TV BG w' c hl e h j L T cls rr) : OUT w y t m TY TV BG w' c hl e h0 j0 L0 T cls0 rr0 := by
  rcases o with ⟨f, j', g, o1, o2, o3⟩ | ⟨j', L', g, o1, o2, o3, o4, o5, o6, o7, o8, o9⟩
  · refine Or.inl ⟨f, j', g, hcls.trans o1, FX_t p b hL o2, fun hm0 q0 => ?_⟩
    obtain ⟨hm, r1, r2, r3⟩ := hr hm0 q0
    obtain ⟨hm', r4, r5⟩ := o3 hm r3
    exact ⟨hm', r1.trans r4, FM_t r2 r5⟩
  · refine Or.inr ⟨j', L', g, hcls.trans o1, fX_t p o2, bX_t b o3 hL, o4, by omega, by omega, o7, o8, fun hm0 q0 => ?_⟩
    obtain ⟨hm, r1, r2, r3⟩ := hr hm0 q0
    obtain ⟨hm', r4, r5, r6⟩ := o9 hm r3
    exact ⟨hm', r1.trans r4, fS_t r2 r5, r6⟩
theorem iv_ph_ge (f : Nat → Int32) (L : Nat) : L ≤ iv_ph f L := by unfold iv_ph; omega
/-- an operand of both -/
theorem p_opM {i L : Nat} {h g hm : mj_HI} (hG : txG 3 y t m TY TV BG) (him : i ≤ m) (q : MS 3 y t TY TV BG i L h hm) (hC : iv_ph (h 165) L < 400) (hb : bX h g L) (g1 : g 165 L = opc TY TV i) (g2 : g 166 L = opa TY TV i) (ho : opd TY TV i) : ∃ hm' : mj_HI, mj_dc mj_P E (d' + 5) 188 [.ref 205] (mj_hw w' c hm hl) = some (some (.int 0), mj_hw w' c hm' hl) ∧ fS hm hm' ∧ MS 3 y t TY TV BG (i + 1) (L + 1) g hm' := by
  obtain ⟨hm', u1, u2, u3, u4, u5, u6, u7⟩ := (s_unitM (E := E) (d' := d') (w' := w') (c := c) (hl := hl) (C := iv_ph (h 165) L) hG him q.1 q.2.1 q.2.2.1).1 ho hC
  obtain ⟨h1, h2, h3, h4⟩ := hG.2.2.2.2.2.2 i him
  have hop : (TY i = 1 ∧ opc TY TV i = 10) ∨ (∃ x, x < 10 ∧ TY i ≠ 1 ∧ opc TY TV i = nI x ∧ x = TV i - 7) := by
    by_cases z : TY i = 1
    · exact Or.inl ⟨z, if_pos z⟩
    · have z2 := ho.resolve_left z
      have z3 : TV i < 17 := h3 z2.1
      exact Or.inr ⟨TV i - 7, by omega, z, if_neg z, rfl⟩
  have n14 : ¬ g 165 L = 14 := by
    rw [g1]
    rcases hop with ⟨_, z⟩ | ⟨x, x1, _, z, _⟩
    · rw [z]; decide
    · rw [z]; exact nI14 (by omega)
  refine ⟨hm', u1, fun a k z1 z2 => u7 a k (by omega) (by omega), u2, u3, cdr_s q.2.2 hb (fun p hp => ⟨u7 _ _ (by omega) (by omega), u7 _ _ (by omega) (by omega)⟩) (by rw [u4, iv_ph_s, if_neg n14, bX_ph hb (Nat.le_refl _), Nat.add_zero]) ?_⟩
  rw [g1, g2]
  rcases hop with ⟨z, zc⟩ | ⟨x, x1, z, zc, zx⟩
  · rw [if_pos z] at u5 u6
    exact Or.inr (Or.inl ⟨zc, u5, by rw [show opa TY TV i = nI (TV i) from if_pos z]; exact u6⟩)
  · rw [if_neg z] at u5 u6
    exact Or.inl ⟨x, x1, zc, u5, by rw [zx]; exact u6⟩
theorem opc_n14 {i : Nat} (hG : txG 3 y t m TY TV BG) (him : i ≤ m) (ho : opd TY TV i) : ∃ x, x ≤ 10 ∧ opc TY TV i = nI x ∧ ¬ opc TY TV i = 14 := by
  obtain ⟨h1, h2, h3, h4⟩ := hG.2.2.2.2.2.2 i him
  by_cases z : TY i = 1
  · exact ⟨10, by omega, if_pos z, by rw [show opc TY TV i = 10 from if_pos z]; decide⟩
  · have z2 := ho.resolve_left z
    have z3 : TV i < 17 := h3 z2.1
    exact ⟨TV i - 7, by omega, if_neg z, by rw [show opc TY TV i = nI (TV i - 7) from if_neg z]; exact nI14 (by omega)⟩
/-- behind an operand: what is multiplied and divided -/
theorem s_termL {L0 : Nat} (hG : txG 3 y t m TY TV BG) : ∀ f j L h q (v1 a3 a4 : Int32) (u1 : Value), m - j ≤ f → XS m TY TV BG j L h → iv_ph (h 165) L + e ≤ j → L0 ≤ L → tyd (h 165) L0 L 29 false → q ≤ j → OUT 3 y t m TY TV BG w' c hl e h j L (fun g L' => tyd (g 165) L0 L' 29 false) (mj_den mj_P E (d + 1) 65 167 [.ref 159, .int v1, .int (nI q), .int a3, .int a4] [] (mj_hw w' c h hl)) (fun hm => mj_den mj_P E (d' + 5) 189 10 [.ref 205, u1] [] (mj_hw w' c hm hl)) := by
  obtain ⟨_, t400, mt, _, hnz, hmz, htv⟩ := id hG
  intro f
  induction f with
  | zero =>
    intro j L h q v1 a3 a4 u1 hf hS hcap hL0 hty hq
    have hjm : j = m := by have := hS.2.2.1; omega
    have n3 : ∀ x, ¬ (TY j = 3 ∧ TV j = x) := fun x z => by rw [hjm, hmz] at z; omega
    have X42 : mj_dc mj_P E (d + 1) 56 [.ref 159, .int 42] (mj_hw w' c h hl) = _ := s_sgX (d := d) (x := 42) hG hS.2.2.1 hS.2.1 (by omega)
    have X47 : mj_dc mj_P E (d + 1) 56 [.ref 159, .int 47] (mj_hw w' c h hl) = _ := s_sgX (d := d) (x := 47) hG hS.2.2.1 hS.2.1 (by omega)
    rw [if_neg (n3 42)] at X42
    rw [if_neg (n3 47)] at X47
    refine Or.inr ⟨j, L, h, ?_, fX_r h, bX_r h L, hS, Nat.le_refl _, Nat.le_refl _, hcap, hty, fun hm qm => ⟨hm, ?_, fS_r hm, qm⟩⟩
    · rw [g65_167, X42, mj_bi_some, g65_173, if_pos rfl, g65_181, X47, mj_bi_some, g65_187, if_pos rfl, g65_195, g65_196, if_neg (fun z => z rfl), if_pos (Or.inr rfl)]
    · have M42 : mj_dc mj_P E (d' + 5) 185 [.ref 205, .int 42] (mj_hw w' c hm hl) = _ := s_sgM (d := d' + 4) (x := 42) hG hS.2.2.1 qm.2.1 (by omega)
      have M47 : mj_dc mj_P E (d' + 5) 185 [.ref 205, .int 47] (mj_hw w' c hm hl) = _ := s_sgM (d := d' + 4) (x := 47) hG hS.2.2.1 qm.2.1 (by omega)
      rw [if_neg (n3 42)] at M42
      rw [if_neg (n3 47)] at M47
      show mj_den mj_P E (d' + 5) 189 10 [.ref 205, u1] [] (mj_hw w' c hm hl) = _
      rw [g189_10, M42, mj_bi_some, g189_16, if_neg (fun z => z rfl), M47, mj_bi_some, g189_25, if_pos rfl, g189_101]
  | succ f ih =>
    intro j L h q v1 a3 a4 u1 hf hS hcap hL0 hty hq
    have X42 : mj_dc mj_P E (d + 1) 56 [.ref 159, .int 42] (mj_hw w' c h hl) = _ := s_sgX (d := d) (x := 42) hG hS.2.2.1 hS.2.1 (by omega)
    have X47 : mj_dc mj_P E (d + 1) 56 [.ref 159, .int 47] (mj_hw w' c h hl) = _ := s_sgX (d := d) (x := 47) hG hS.2.2.1 hS.2.1 (by omega)
    have hM42 : ∀ hm, MS 3 y t TY TV BG j L h hm → mj_dc mj_P E (d' + 5) 185 [.ref 205, .int 42] (mj_hw w' c hm hl) = some (some (.int (if TY j = 3 ∧ TV j = 42 then 1 else 0)), mj_hw w' c hm hl) := fun hm qm => s_sgM (d := d' + 4) (x := 42) hG hS.2.2.1 qm.2.1 (by omega)
    have hM47 : ∀ hm, MS 3 y t TY TV BG j L h hm → mj_dc mj_P E (d' + 5) 185 [.ref 205, .int 47] (mj_hw w' c hm hl) = some (some (.int (if TY j = 3 ∧ TV j = 47 then 1 else 0)), mj_hw w' c hm hl) := fun hm qm => s_sgM (d := d' + 4) (x := 47) hG hS.2.2.1 qm.2.1 (by omega)
    have hLge := iv_ph_ge (h 165) L
    have hjle := hS.2.2.1
    have him' : TY j = 3 → j < m := fun hz => by
      rcases Nat.lt_or_ge j m with z | z
      · exact z
      · rw [show j = m by omega, hmz] at hz; omega
    by_cases s42 : TY j = 3 ∧ TV j = 42
    · rw [if_pos s42] at X42
      have hjm := him' s42.1
      obtain ⟨h1, e1, S1, f1, fr1⟩ := p_stX (E := E) (d := d) (w' := w') (c := c) (hl := hl) hG hS hjm
      have b1 : bX h h1 L := fun k _ => ⟨fr1 _ _ (by omega), fr1 _ _ (by omega)⟩
      have ph1 : iv_ph (h1 165) L = iv_ph (h 165) L := bX_ph b1 (Nat.le_refl _)
      have ecls : mj_den mj_P E (d + 1) 65 167 [.ref 159, .int v1, .int (nI q), .int a3, .int a4] [] (mj_hw w' c h hl) = mj_den mj_P E (d + 1) 65 4 [.ref 159, .int 13, .int (nI (q + 1)), .int a3, .int a4] [] (mj_hw w' c h1 hl) := by
        rw [g65_167, X42, mj_bi_some, g65_173, if_neg (by decide), g65_196, if_pos (by decide), g65_204, e1, mj_bv_some, g65_208, mj_nIs]
      have eref : ∀ hm, MS 3 y t TY TV BG j L h hm → ∃ hm1, mj_den mj_P E (d' + 5) 189 10 [.ref 205, u1] [] (mj_hw w' c hm hl) = mj_den mj_P E (d' + 5) 189 74 [.ref 205, .int 1] [] (mj_hw w' c hm1 hl) ∧ fS hm hm1 ∧ MS 3 y t TY TV BG (j + 1) L h hm1 := fun hm qm => by
        have M42 := hM42 hm qm
        rw [if_pos s42] at M42
        obtain ⟨hm1, k1, k2, k3, k4⟩ := p_stM (E := E) (d := d' + 1) (w' := w') (c := c) (hl := hl) hG qm hjm
        refine ⟨hm1, ?_, k3, k2⟩
        rw [g189_10, M42, mj_bi_some, g189_16, if_pos (by decide), g189_28, M42, mj_bi_some, g189_34, k1, mj_bv_some, g189_39, if_pos (by decide), g189_57, if_pos (by decide)]
      rcases s_headX (E := E) (d := d) (w' := w') (c := c) (hl := hl) (q := q + 1) (v1 := 13) hG S1 (by omega) (Or.inr (Or.inl rfl)) (fun z => Or.inl (by omega)) (.int a3) (.int a4) with ⟨f', g, o1, o2, o3⟩ | ⟨g, L', b3, b4, o1, o2, o3, o4, o5, o6⟩
      · have hno : f' = 1 ∧ ¬ opd TY TV (j + 1) := by
          rcases o3 with ⟨z1, _, z2⟩ | ⟨_, z, _⟩ | ⟨_, z, _⟩
          · exact ⟨z1, z2⟩
          · exact absurd z (by decide)
          · exact absurd z (by decide)
        refine Or.inl ⟨f', j + 1, g, ecls.trans o1, FX_t f1 b1 (Nat.le_refl _) o2, fun hm qm => ?_⟩
        obtain ⟨hm1, r1, r2, r3⟩ := eref hm qm
        obtain ⟨hm2, r4, r5⟩ := (s_unitM (E := E) (d' := d') (w' := w') (c := c) (hl := hl) (C := iv_ph (h 165) L) hG S1.2.2.1 r3.1 r3.2.1 r3.2.2.1).2 hno.2
        refine ⟨hm2, ?_, by rw [hno.1]; exact FM_t r2 r5⟩
        show mj_den mj_P E (d' + 5) 189 10 [.ref 205, u1] [] (mj_hw w' c hm hl) = _
        rw [r1, g189_74, r4, mj_bi_some, g189_78, if_neg (fun z => z rfl)]
      · obtain ⟨_, ho, hL', g1, g2, g3⟩ : (13 : Int32) = 13 ∧ opd TY TV (j + 1) ∧ L' = L + 2 ∧ g 165 L = opc TY TV (j + 1) ∧ g 166 L = opa TY TV (j + 1) ∧ g 165 (L + 1) = 13 := by
          rcases o6 with ⟨z, _⟩ | z | ⟨z, _⟩
          · exact absurd z (by decide)
          · exact z
          · exact absurd z (by decide)
        subst hL'
        obtain ⟨x, x1, x2, x3⟩ := opc_n14 hG S1.2.2.1 ho
        have bg : bX h g L := bX_t b1 o5 (Nat.le_refl _)
        have pg : iv_ph (g 165) L = iv_ph (h 165) L := bX_ph bg (Nat.le_refl _)
        have p1 : iv_ph (g 165) (L + 1) = iv_ph (h 165) L + 1 := by rw [iv_ph_s, g1, if_neg x3, pg]
        have p2 : iv_ph (g 165) (L + 2) = iv_ph (h 165) L + 2 := by rw [show L + 2 = (L + 1) + 1 by omega, iv_ph_s, g3, if_neg (by decide), p1]
        have tg : tyd (g 165) L0 (L + 2) 29 false := tyd_b (tyd_c hty (fun k z1 z2 => (bg k z2).1)) (tyd_1 x1 (g1.trans x2)) hL0 (by omega) (by omega) (fun r => by rw [g3]; exact ty_13 r)
        refine OUT_pre (fX_t f1 o4) bg (by omega) (show j ≤ j + 2 by omega) (ecls.trans o1) (fun hm qm => ?_) (ih (j + 2) (L + 2) g (q + 1) 13 b3 b4 (.int 1) (by omega) o3 (by omega) (by omega) tg (by omega))
        obtain ⟨hm1, r1, r2, r3⟩ := eref hm qm
        obtain ⟨hm2, r4, r5, r6⟩ := p_opM (E := E) (d' := d') (w' := w') (c := c) (hl := hl) hG S1.2.2.1 r3 (by omega) bg g1 g2 ho
        obtain ⟨hm3, r7, r8, r9, _⟩ := p_emM (E := E) (d := d' + 4) (w' := w') (c := c) (hl := hl) (g' := g) (v1 := 4) (v2 := 0) r6 (by omega) (bX_r g _) (by rw [g3]; decide) (fun mo ma z1 z2 => by rw [g3]; exact Or.inr (Or.inr (Or.inr (Or.inr (Or.inr (Or.inl ⟨rfl, z1⟩))))))
        refine ⟨hm3, ?_, fS_t r2 (fS_t r5 r9), r8⟩
        show mj_den mj_P E (d' + 5) 189 10 [.ref 205, u1] [] (mj_hw w' c hm hl) = _
        rw [r1, g189_74, r4, mj_bi_some, g189_78, if_pos (by decide), g189_84, if_neg (by decide), g189_94, r7, mj_bv_some, g189_98]
    · rw [if_neg s42] at X42
      by_cases s47 : TY j = 3 ∧ TV j = 47
      · rw [if_pos s47] at X47
        have hjm := him' s47.1
        obtain ⟨h1, e1, S1, f1, fr1⟩ := p_stX (E := E) (d := d) (w' := w') (c := c) (hl := hl) hG hS hjm
        have b1 : bX h h1 L := fun k _ => ⟨fr1 _ _ (by omega), fr1 _ _ (by omega)⟩
        have ecls : mj_den mj_P E (d + 1) 65 167 [.ref 159, .int v1, .int (nI q), .int a3, .int a4] [] (mj_hw w' c h hl) = mj_den mj_P E (d + 1) 65 4 [.ref 159, .int 14, .int (nI (q + 1)), .int a3, .int a4] [] (mj_hw w' c h1 hl) := by
          rw [g65_167, X42, mj_bi_some, g65_173, if_pos rfl, g65_181, X47, mj_bi_some, g65_187, if_neg (by decide), g65_196, if_pos (by decide), g65_204, e1, mj_bv_some, g65_208, mj_nIs]
        have eref : ∀ hm, MS 3 y t TY TV BG j L h hm → ∃ hm1, mj_den mj_P E (d' + 5) 189 10 [.ref 205, u1] [] (mj_hw w' c hm hl) = mj_den mj_P E (d' + 5) 189 39 [.ref 205, .int 0] [] (mj_hw w' c hm1 hl) ∧ fS hm hm1 ∧ MS 3 y t TY TV BG (j + 1) L h hm1 := fun hm qm => by
          have M42 := hM42 hm qm
          have M47 := hM47 hm qm
          rw [if_neg s42] at M42
          rw [if_pos s47] at M47
          obtain ⟨hm1, k1, k2, k3, k4⟩ := p_stM (E := E) (d := d' + 1) (w' := w') (c := c) (hl := hl) hG qm hjm
          refine ⟨hm1, ?_, k3, k2⟩
          rw [g189_10, M42, mj_bi_some, g189_16, if_neg (fun z => z rfl), M47, mj_bi_some, g189_25, if_neg (by decide), g189_28, M42, mj_bi_some, g189_34, k1, mj_bv_some]
        rcases s_headX (E := E) (d := d) (w' := w') (c := c) (hl := hl) (q := q + 1) (v1 := 14) hG S1 (by omega) (Or.inr (Or.inr rfl)) (fun z => Or.inl (by omega)) (.int a3) (.int a4) with ⟨f', g, o1, o2, o3⟩ | ⟨g, L', b3, b4, o1, o2, o3, o4, o5, o6⟩
        · refine Or.inl ⟨f', j + 1, g, ecls.trans o1, FX_t f1 b1 (Nat.le_refl _) o2, fun hm qm => ?_⟩
          obtain ⟨hm1, r1, r2, r3⟩ := eref hm qm
          obtain ⟨k1, k2, k3, k4, k5, k6⟩ := rtk_tok r3.2.1.2.2
          rcases o3 with ⟨_, z, _⟩ | ⟨z1, _, z2⟩ | ⟨z1, _, z2, z3⟩
          · exact absurd rfl z
          · obtain ⟨hm2, r4, r5⟩ := s_erM_ex (E := E) (d := d' + 4) (w' := w') (c := c) (hl := hl) (f := 1) r3.2.1
            have r4' : mj_dc mj_P E (d' + 5) 183 [.ref 205, .int 1] (mj_hw w' c hm1 hl) = some (some (.int (-1)), mj_hw w' c hm2 hl) := r4
            refine ⟨hm2, ?_, by rw [z1]; exact FM_t r2 r5⟩
            show mj_den mj_P E (d' + 5) 189 10 [.ref 205, u1] [] (mj_hw w' c hm hl) = _
            rw [r1, g189_39, if_neg (fun z => z rfl), if_neg (fun z => z2 (k2.mp z)), r4', mj_bi_some, g189_56]
          · obtain ⟨hm2, r4, r5⟩ := s_erM_ex (E := E) (d := d' + 4) (w' := w') (c := c) (hl := hl) (f := 2) r3.2.1
            have r4' : mj_dc mj_P E (d' + 5) 183 [.ref 205, .int 2] (mj_hw w' c hm1 hl) = some (some (.int (-1)), mj_hw w' c hm2 hl) := r4
            have hv0 : hm1 205 18 = 0 := by rw [k4 z2, z3]; rfl
            refine ⟨hm2, ?_, by rw [z1]; exact FM_t r2 r5⟩
            show mj_den mj_P E (d' + 5) 189 10 [.ref 205, u1] [] (mj_hw w' c hm hl) = _
            rw [r1, g189_39, if_neg (fun z => z rfl), if_pos (k2.mpr z2), g189_57, if_neg (fun z => z rfl), if_neg (fun z => z hv0), r4', mj_bi_some, g189_73]
        · obtain ⟨_, hn, hnz0, hL', g1, g2⟩ : (14 : Int32) = 14 ∧ TY (j + 1) = 1 ∧ TV (j + 1) ≠ 0 ∧ L' = L + 1 ∧ g 165 L = 14 ∧ g 166 L = nI (TV (j + 1)) := by
            rcases o6 with ⟨z, _⟩ | ⟨z, _⟩ | z
            · exact absurd z (by decide)
            · exact absurd z (by decide)
            · exact z
          subst hL'
          have bg : bX h g L := bX_t b1 o5 (Nat.le_refl _)
          have pg : iv_ph (g 165) L = iv_ph (h 165) L := bX_ph bg (Nat.le_refl _)
          have p1 : iv_ph (g 165) (L + 1) = iv_ph (h 165) L + 2 := by rw [iv_ph_s, g1, if_pos rfl, pg]
          have tg : tyd (g 165) L0 (L + 1) 29 false := tyd_u (tyd_c hty (fun k z1 z2 => (bg k z2).1)) hL0 (fun r => by rw [g1]; exact ty_14 r)
          refine OUT_pre (fX_t f1 o4) bg (by omega) (show j ≤ j + 2 by omega) (ecls.trans o1) (fun hm qm => ?_) (ih (j + 2) (L + 1) g (q + 1) 14 b3 b4 (.int 0) (by omega) o3 (by omega) (by omega) tg (by omega))
          obtain ⟨hm1, r1, r2, r3⟩ := eref hm qm
          obtain ⟨k1, k2, k3, k4, k5, k6⟩ := rtk_tok r3.2.1.2.2
          obtain ⟨hm2, u1', u2, u3, u4, u5, u6, u7⟩ := (s_unitM (E := E) (d' := d') (w' := w') (c := c) (hl := hl) (C := iv_ph (h 165) L) hG S1.2.2.1 r3.1 r3.2.1 r3.2.2.1).1 (Or.inl hn) (by omega)
          rw [if_pos hn] at u5 u6
          have em := s_emM (E := E) (d := d' + 4) (w' := w') (c := c) (hl := hl) (h := hm2) (C := iv_ph (h 165) L + 1) (by omega) u4 5 0
          have htv1 := (htv (j + 1) S1.2.2.1).2.1 (by omega)
          have hv0 : ¬ hm1 205 18 = 0 := by rw [k4 hn, mj_ez (by omega)]; exact hnz0
          have hne : ¬ nI (TV (j + 1)) = (0 : Int32) := by rw [mj_ez (by omega)]; exact hnz0
          refine ⟨mj_u (mj_u (mj_u hm2 221 (800 + (iv_ph (h 165) L + 1)) 5) 222 (800 + (iv_ph (h 165) L + 1)) 0) 205 28 (nI (iv_ph (h 165) L + 1 + 1)), ?_, fS_t r2 (fun a k z1 z2 => ?_), txM_c u2 (fun a k z => ?_), txB_c u3 (fun k z1 z2 => ?_), cdr_s r3.2.2 bg (fun p hp => ⟨?_, ?_⟩) ?_ ?_⟩
          · show mj_den mj_P E (d' + 5) 189 10 [.ref 205, u1] [] (mj_hw w' c hm hl) = _
            rw [r1, g189_39, if_neg (fun z => z rfl), if_pos (k2.mpr hn), g189_57, if_neg (fun z => z rfl), if_pos hv0, g189_74, u1', mj_bi_some, g189_78, if_pos (by decide), g189_84, if_pos rfl, g189_93, g189_94, em, mj_bv_some, g189_98]
          · rw [mj_u_pt (by omega), mj_u_pt (by omega), mj_u_pt (by omega)]; exact u7 a k (by omega) (by omega)
          · rw [mj_u_pt (by omega), mj_u_pt (by omega), mj_u_pt (by omega)]
          · rw [mj_u_pt (by omega), mj_u_pt (by omega), mj_u_pt (by omega)]
          · rw [mj_u_pt (by omega), mj_u_pt (by omega), mj_u_pt (by omega)]; exact u7 _ _ (by omega) (by omega)
          · rw [mj_u_pt (by omega), mj_u_pt (by omega), mj_u_pt (by omega)]; exact u7 _ _ (by omega) (by omega)
          · rw [mj_u_eq, p1]
          · rw [g1, g2]
            refine Or.inr (Or.inr (Or.inl ⟨rfl, ?_, ?_, hne, ?_⟩))
            · show mj_u _ 205 28 _ 221 (800 + iv_ph (h 165) L) = 0
              rw [mj_u_pt (by omega), mj_u_pt (by omega), mj_u_pt (by omega)]; exact u5
            · show mj_u _ 205 28 _ 222 (800 + iv_ph (h 165) L) = _
              rw [mj_u_pt (by omega), mj_u_pt (by omega), mj_u_pt (by omega)]; exact u6
            · show mj_u _ 205 28 _ 221 (800 + (iv_ph (h 165) L + 1)) = 5
              rw [mj_u_pt (by omega), mj_u_pt (by omega), mj_u_eq]
      · rw [if_neg s47] at X47
        refine Or.inr ⟨j, L, h, ?_, fX_r h, bX_r h L, hS, Nat.le_refl _, Nat.le_refl _, hcap, hty, fun hm qm => ⟨hm, ?_, fS_r hm, qm⟩⟩
        · rw [g65_167, X42, mj_bi_some, g65_173, if_pos rfl, g65_181, X47, mj_bi_some, g65_187, if_pos rfl, g65_195, g65_196, if_neg (fun z => z rfl), if_pos (Or.inr rfl)]
        · have M42 := hM42 hm qm
          have M47 := hM47 hm qm
          rw [if_neg s42] at M42
          rw [if_neg s47] at M47
          show mj_den mj_P E (d' + 5) 189 10 [.ref 205, u1] [] (mj_hw w' c hm hl) = _
          rw [g189_10, M42, mj_bi_some, g189_16, if_neg (fun z => z rfl), M47, mj_bi_some, g189_25, if_pos rfl, g189_101]
/-- a product of both -/
theorem s_term {j L : Nat} {h : mj_HI} (hG : txG 3 y t m TY TV BG) (hS : XS m TY TV BG j L h) (hcap : iv_ph (h 165) L + e ≤ j) : OUT 3 y t m TY TV BG w' c hl e h j L (fun g L' => tyd (g 165) L L' 29 false) (mj_dc mj_P E (d + 2) 65 [.ref 159] (mj_hw w' c h hl)) (fun hm => mj_dc mj_P E (d' + 6) 189 [.ref 205] (mj_hw w' c hm hl)) := by
  obtain ⟨_, t400, mt, _, hnz, hmz, htv⟩ := id hG
  have hLge := iv_ph_ge (h 165) L
  have hjle := hS.2.2.1
  have ecls : mj_dc mj_P E (d + 2) 65 [.ref 159] (mj_hw w' c h hl) = mj_den mj_P E (d + 1) 65 4 [.ref 159, .int (-1), .int (nI 0), .float 0, .float 0] [] (mj_hw w' c h hl) := by rw [xg65, g65_0]; rfl
  rcases s_headX (E := E) (d := d) (w' := w') (c := c) (hl := hl) (q := 0) (v1 := -1) hG hS (by omega) (Or.inl rfl) (fun z => Or.inr ⟨by decide, by omega⟩) (.float 0) (.float 0) with ⟨f', g, o1, o2, o3⟩ | ⟨g, L', b3, b4, o1, o2, o3, o4, o5, o6⟩
  · have hno : f' = 1 ∧ ¬ opd TY TV j := by
      rcases o3 with ⟨z1, _, z2⟩ | ⟨_, z, _⟩ | ⟨_, z, _⟩
      · exact ⟨z1, z2⟩
      · exact absurd z (by decide)
      · exact absurd z (by decide)
    refine Or.inl ⟨f', j, g, ecls.trans o1, o2, fun hm qm => ?_⟩
    obtain ⟨hm2, r4, r5⟩ := (s_unitM (E := E) (d' := d') (w' := w') (c := c) (hl := hl) (C := iv_ph (h 165) L) hG hjle qm.1 qm.2.1 qm.2.2.1).2 hno.2
    refine ⟨hm2, ?_, by rw [hno.1]; exact r5⟩
    show mj_dc mj_P E (d' + 6) 189 [.ref 205] (mj_hw w' c hm hl) = _
    rw [xg189, g189_0, r4, mj_bi_some, g189_4, if_neg (fun z => z rfl)]
  · obtain ⟨_, ho, hL', g1, g2⟩ : (-1 : Int32) = -1 ∧ opd TY TV j ∧ L' = L + 1 ∧ g 165 L = opc TY TV j ∧ g 166 L = opa TY TV j := by
      rcases o6 with z | ⟨z, _⟩ | ⟨z, _⟩
      · exact z
      · exact absurd z (by decide)
      · exact absurd z (by decide)
    subst hL'
    obtain ⟨x, x1, x2, x3⟩ := opc_n14 hG hjle ho
    have p1 : iv_ph (g 165) (L + 1) = iv_ph (h 165) L + 1 := by rw [iv_ph_s, g1, if_neg x3, bX_ph o5 (Nat.le_refl _)]
    have tg : tyd (g 165) L (L + 1) 29 false := tyd_m (tyd_1 x1 (g1.trans x2)) (by omega)
    refine OUT_pre o4 o5 (by omega) (show j ≤ j + 1 by omega) (ecls.trans o1) (fun hm qm => ?_) (s_termL (E := E) (d := d) (d' := d') (w' := w') (c := c) (hl := hl) (e := e) (L0 := L) hG m (j + 1) (L + 1) g 0 (-1) b3 b4 (.float 0) (by omega) o3 (by omega) (by omega) tg (by omega))
    obtain ⟨hm2, r4, r5, r6⟩ := p_opM (E := E) (d' := d') (w' := w') (c := c) (hl := hl) hG hjle qm (by omega) o5 g1 g2 ho
    refine ⟨hm2, ?_, r5, r6⟩
    show mj_dc mj_P E (d' + 6) 189 [.ref 205] (mj_hw w' c hm hl) = _
    rw [xg189, g189_0, r4, mj_bi_some, g189_4, if_pos (by decide)]
end MJZ11
