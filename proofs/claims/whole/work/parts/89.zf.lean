section MJZ16
variable {E : mj_E} {d d' w' c : Nat} {hl : Nat → Nat → Int64} {y TY TV BG : Nat → Nat} {t m : Nat}
theorem PO_B {j L o : Nat} {g hm : mj_HI} {S : List Nat} (q : PO y t TY TV BG j L g S o hm) : txB 3 y t TY TV BG j hm := by
  rcases q with q | ⟨_, _, q⟩
  · rcases q with z | ⟨_, _, z⟩ <;> exact z.1.2.1
  · rcases q with z | ⟨_, _, z⟩ <;> exact z.1.2.1
/-- and, then or, leave -/
theorem s_stl2 {i L o : Nat} {g hm : mj_HI} {S : List Nat} (q : PO y t TY TV BG i L g S o hm) (hS : S.length < 39) (h10 : tpn 10 S) (h11 : tpn 11 S) (hC : iv_ph (g 165) L ≤ 400) : ∃ hm1 hm' : mj_HI, mj_dc mj_P E (d + 2) 193 [.ref 205, .int 10] (mj_hw w' c hm hl) = some (none, mj_hw w' c hm1 hl) ∧ mj_dc mj_P E (d + 2) 193 [.ref 205, .int 11] (mj_hw w' c hm1 hl) = some (none, mj_hw w' c hm' hl) ∧ RS y t TY TV BG i L g S o hm' ∧ fC hm hm' := by
  rcases q with q | ⟨q1, q2, q3⟩
  · obtain ⟨hma, ea, qa, fa⟩ := s_stl (E := E) (d := d) (w' := w') (c := c) (hl := hl) (x := 10) (Or.inl ⟨rfl, rfl⟩) q (by omega) h10 hC
    obtain ⟨hmb, eb, qb, fb⟩ := s_stl (E := E) (d := d) (w' := w') (c := c) (hl := hl) (x := 11) (op := 20) (Or.inr ⟨rfl, rfl⟩) (Or.inl qa) (by omega) h11 hC
    exact ⟨hma, hmb, ea, eb, qb, fC_t fa fb⟩
  · have hp := RS_ph (o := 0) (i := 0) (hm := hm) (S := S) (x := 11) (Or.inr ⟨rfl, rfl⟩) q1 q2
    obtain ⟨hma, ea, qa, fa⟩ := s_stl (E := E) (d := d) (w' := w') (c := c) (hl := hl) (x := 10) (Or.inl ⟨rfl, rfl⟩) q3 (by show S.length + 1 < 40; omega) (tpn_k (by omega)) (by omega)
    obtain ⟨hmb, eb, qb, fb⟩ := s_stl (E := E) (d := d) (w' := w') (c := c) (hl := hl) (x := 11) (op := 20) (Or.inr ⟨rfl, rfl⟩) (Or.inr ⟨q1, q2, qa⟩) (by omega) h11 hC
    exact ⟨hma, hmb, ea, eb, qb, fC_t fa fb⟩
theorem lp_N {o n : Nat} (hG : txG 3 y t m TY TV BG) (ho : o + n = 8) (hP : Pa E d' w' c hl y t m TY TV BG o n) (d : Nat) : ∀ (r j L L0 e q : Nat) (g : mj_HI) (v4 : Int32), m - j < r → XS m TY TV BG j L g → iv_ph (g 165) L + e ≤ j → q ≤ j → L0 ≤ L → tyd (g 165) L0 L (2 * o) true → ¬ (TY j = 2 ∧ TV j = 5) →
    (∃ f j' g', mj_den mj_P E (d + 5 + 3 * n) 62 59 [.ref 159, .int 0, .int (nI o), .int (nI q), .int v4] [] (mj_hw w' c g hl) = some (some (.int 0), mj_hw w' c g' hl) ∧ FX BG g g' L f j' ∧ ∀ hm S b u3, PO y t TY TV BG j L g S o hm → S.length ≤ 3 * o → tpn 10 S → tpn 11 S → b ≤ o → ∃ hm', mj_den mj_P E (d' + 8) 194 9 [.ref 205, .int (nI b), .int 0, u3] [] (mj_hw w' c hm hl) = some (some (.int (-1)), mj_hw w' c hm' hl) ∧ FC BG hm hm' f j') ∨
    (∃ j' L' g', mj_den mj_P E (d + 5 + 3 * n) 62 59 [.ref 159, .int 0, .int (nI o), .int (nI q), .int v4] [] (mj_hw w' c g hl) = some (some (.int 1), mj_hw w' c g' hl) ∧ fX g g' ∧ bX g g' L ∧ XS m TY TV BG j' L' g' ∧ j ≤ j' ∧ L ≤ L' ∧ iv_ph (g' 165) L' + e ≤ j' ∧ tyd (g' 165) L0 L' (2 * o) true ∧ ∀ hm S b u3, PO y t TY TV BG j L g S o hm → S.length ≤ 3 * o → tpn 10 S → tpn 11 S → b ≤ o → ∃ hm' u3', mj_den mj_P E (d' + 8) 194 9 [.ref 205, .int (nI b), .int 0, u3] [] (mj_hw w' c hm hl) = mj_den mj_P E (d' + 8) 194 185 [.ref 205, .int (nI b), .int 0, u3'] [] (mj_hw w' c hm' hl) ∧ RS y t TY TV BG j' L' g' S o hm' ∧ fC hm hm') := by
  obtain ⟨_, t400, mt, _, hnz, hmz, htv⟩ := id hG
  intro r
  induction r with
  | zero => intro j L L0 e q g v4 hr; omega
  | succ r ih =>
    intro j L L0 e q g v4 hr hS hcap hq hL0 hty hnand
    have hjm := hS.2.2.1
    have X4 : mj_dc mj_P E (d + 5 + 3 * n) 57 [.ref 159, .int 4] (mj_hw w' c g hl) = some (some (.int (if TY j = 2 ∧ TV j = 4 then 1 else 0)), mj_hw w' c g hl) := by
      rw [show d + 5 + 3 * n = (d + 4 + 3 * n) + 1 by omega]; exact s_wdX (x := 4) hG hjm hS.2.1 (by omega)
    have h72 : ∀ s : Int32, mj_den mj_P E (d + 5 + 3 * n) 62 59 [.ref 159, .int 0, .int (nI o), .int (nI q), .int v4] [] (mj_hw w' c g hl) = mj_den mj_P E (d + 5 + 3 * n) 62 72 [.ref 159, .int 0, .int (nI o), .int (nI q), .int v4] [.int (if TY j = 2 ∧ TV j = 4 then 1 else 0)] (mj_hw w' c g hl) := fun _ => by
      rw [g62_59, if_neg (fun z => z rfl), g62_69, X4, mj_bi_some]
    have r138 : ∀ hm S b u3, PO y t TY TV BG j L g S o hm → mj_den mj_P E (d' + 8) 194 9 [.ref 205, .int (nI b), .int 0, u3] [] (mj_hw w' c hm hl) = mj_den mj_P E (d' + 8) 194 143 [.ref 205, .int (nI b), .int 0, u3] [.int (if TY j = 2 ∧ TV j = 4 then 1 else 0)] (mj_hw w' c hm hl) := fun hm S b u3 qa => by
      have k5 : mj_dc mj_P E (d' + 8) 184 [.ref 205, .int 5] (mj_hw w' c hm hl) = some (some (.int (if TY j = 2 ∧ TV j = 5 then 1 else 0)), mj_hw w' c hm hl) := s_wdM (d := d' + 7) (x := 5) hG hjm (PO_B qa) (by decide)
      have k4 : mj_dc mj_P E (d' + 8) 184 [.ref 205, .int 4] (mj_hw w' c hm hl) = some (some (.int (if TY j = 2 ∧ TV j = 4 then 1 else 0)), mj_hw w' c hm hl) := s_wdM (d := d' + 7) (x := 4) hG hjm (PO_B qa) (by decide)
      rw [if_neg hnand] at k5
      rw [g194_9, if_pos rfl, g194_109, k5, mj_bi_some, g194_114, if_pos rfl, g194_138, k4, mj_bi_some]
    by_cases hor : TY j = 2 ∧ TV j = 4
    · have hjlt : j < m := by
        rcases Nat.lt_or_ge j m with z | z
        · exact z
        · have hz : TY j = 0 := by rw [show j = m by omega]; exact hmz
          omega
      obtain ⟨g1, e1, S1, f1, fr1⟩ := p_stX (E := E) (d := d + 4 + 3 * n) (w' := w') (c := c) (hl := hl) hG hS hjlt
      have e1' : mj_dc mj_P E (d + 5 + 3 * n) 55 [.ref 159] (mj_hw w' c g hl) = some (none, mj_hw w' c g1 hl) := by rw [show d + 5 + 3 * n = (d + 4 + 3 * n) + 1 by omega]; exact e1
      have b1 : bX g g1 L := fun k _ => ⟨fr1 _ _ (by omega), fr1 _ _ (by omega)⟩
      have ph1 : iv_ph (g1 165) L = iv_ph (g 165) L := bX_ph b1 (Nat.le_refl _)
      have n400 : ¬ (400 : Int32) < nI (q + 1) := by rw [show (400 : Int32) = nI 400 from rfl, mj_nIlt (by omega) (by omega)]; omega
      have h63 : mj_den mj_P E (d + 5 + 3 * n) 62 59 [.ref 159, .int 0, .int (nI o), .int (nI q), .int v4] [] (mj_hw w' c g hl) = mj_bi (mj_dc mj_P E (d + 5 + 3 * n) 62 [.ref 159, .int 1, .int (nI o)] (mj_hw w' c g1 hl)) (fun x1 h1 => mj_den mj_P E (d + 5 + 3 * n) 62 19 [.ref 159, .int 0, .int (nI o), .int (nI (q + 1)), .int v4] [.int x1] h1) := by
        rw [h72 0, if_pos hor, g62_72, if_pos (by decide), g62_77, e1', mj_bv_some, g62_81, mj_nIs, g62_2, if_neg n400, if_neg (fun z => z rfl)]
      have radv : ∀ hm S b u3, PO y t TY TV BG j L g S o hm → S.length ≤ 3 * o → tpn 10 S → tpn 11 S → ∃ hm', mj_den mj_P E (d' + 8) 194 9 [.ref 205, .int (nI b), .int 0, u3] [] (mj_hw w' c hm hl) = mj_den mj_P E (d' + 8) 194 9 [.ref 205, .int (nI b), .int 1, u3] [] (mj_hw w' c hm' hl) ∧ RS y t TY TV BG (j + 1) L g1 (11 :: S) o hm' ∧ fC hm hm' := fun hm S b u3 qa hlen htp htp' => by
        have kk := r138 hm S b u3 qa
        rw [if_pos hor] at kk
        obtain ⟨hmd, hma, ed, ea, qa', fa⟩ := s_stl2 (E := E) (d := d' + 6) (w' := w') (c := c) (hl := hl) qa (by omega) htp htp' (by omega)
        obtain ⟨hmb, eb, qb, fb⟩ := s_waitM (E := E) (d := d' + 7) (w' := w') (c := c) (hl := hl) (x := 11) qa' (by omega) (by omega)
        obtain ⟨hmc, ec, qc, fc⟩ := RS_st (E := E) (d := d' + 4) (w' := w') (c := c) (hl := hl) hG qb hjlt
        have eb' : mj_dc mj_P E (d' + 8) 192 [.ref 205, .int 11] (mj_hw w' c hma hl) = some (none, mj_hw w' c hmb hl) := eb
        exact ⟨hmc, by rw [kk, g194_143, if_neg (by decide), ed, mj_bv_some, g194_152, ea, mj_bv_some, g194_158, eb', mj_bv_some, g194_164, ec, mj_bv_some, g194_168], RS_g qc b1, fC_t fa (fC_t fb fc)⟩
      rcases hP d (j + 1) L (e + 1) g1 S1 (by omega) with ⟨f, j', g', o1, o2, o3⟩ | ⟨j', L', g', o1, o2, o3, o4, o5, o6, o7, o8, o10, o9⟩
      · refine Or.inl ⟨f, j', g', ?_, FX_t f1 b1 (Nat.le_refl _) o2, fun hm S b u3 qa hlen htp htp' hb => ?_⟩
        · rw [h63, o1, mj_bi_some, g62_19, g62_27, if_neg (fun z => z rfl), if_pos (Or.inl rfl)]
        · obtain ⟨hm1, r1, r2, r3⟩ := radv hm S b u3 qa hlen htp htp'
          obtain ⟨hm2, r4, r5⟩ := o3 hm1 (11 :: S) b u3 r2 (by show S.length + 1 ≤ _; omega) hb ⟨tpn_k (by omega), tpn_k (by omega)⟩
          exact ⟨hm2, by rw [r1, r4], FC_t r3 r5⟩
      · have hLge := iv_ph_ge (g' 165) L'
        have hj'm := o4.2.2.1
        obtain ⟨g2, eg, gS, gf, gb, g21, g22, g23⟩ := p_emX (E := E) (d := d + 4 + 3 * n) (w' := w') (c := c) (hl := hl) o4 (by omega) 20 0
        have eg' : mj_dc mj_P E (d + 5 + 3 * n) 17 [.ref 160, .int 20, .int 0] (mj_hw w' c g' hl) = some (none, mj_hw w' c g2 hl) := by rw [show d + 5 + 3 * n = (d + 4 + 3 * n) + 1 by omega]; exact eg
        have p2 : iv_ph (g2 165) (L' + 1) = iv_ph (g' 165) L' + 1 := by rw [iv_ph_s, g21, if_neg (by decide), bX_ph gb (Nat.le_refl _)]
        have bL : bX g g2 L := bX_t b1 (bX_t o3 gb o6) (Nat.le_refl _)
        have n0 : ¬ nI (q + 1) ≤ (0 : Int32) := by rw [show (0 : Int32) = nI 0 from rfl, mj_nIle (by omega) (by omega)]; omega
        have h59 : mj_den mj_P E (d + 5 + 3 * n) 62 59 [.ref 159, .int 0, .int (nI o), .int (nI q), .int v4] [] (mj_hw w' c g hl) = mj_den mj_P E (d + 5 + 3 * n) 62 59 [.ref 159, .int 0, .int (nI o), .int (nI (q + 1)), .int 1] [] (mj_hw w' c g2 hl) := by
          rw [h63, o1, mj_bi_some, g62_19, g62_27, if_pos (by decide), g62_36, if_neg n0, if_neg (fun z => z rfl), g62_55, eg', mj_bv_some]
        have ty2 : tyd (g2 165) L0 (L' + 1) (2 * o) true := tyd_b (tyd_c hty (fun k z1 z2 => (bL k z2).1)) (tyd_c o8 (fun k z1 z2 => (gb k z2).1)) hL0 o6 (by omega) (fun r => by rw [g21]; exact ty_20 r)
        have rstep : ∀ hm S b u3, PO y t TY TV BG j L g S o hm → S.length ≤ 3 * o → tpn 10 S → tpn 11 S → b ≤ o → ∃ hm' u3', mj_den mj_P E (d' + 8) 194 9 [.ref 205, .int (nI b), .int 0, u3] [] (mj_hw w' c hm hl) = mj_den mj_P E (d' + 8) 194 9 [.ref 205, .int (nI b), .int 0, u3'] [] (mj_hw w' c hm' hl) ∧ PO y t TY TV BG j' (L' + 1) g2 S o hm' ∧ fC hm hm' := fun hm S b u3 qa hlen htp htp' hb => by
          obtain ⟨hm1, r1, r2, r3⟩ := radv hm S b u3 qa hlen htp htp'
          obtain ⟨hm2, u3', r4, r5, r6⟩ := o9 hm1 (11 :: S) b u3 r2 (by show S.length + 1 ≤ _; omega) (tpn_k (by omega)) (tpn_k (by omega)) hb
          exact ⟨hm2, u3', by rw [r1, r4], Or.inr ⟨by omega, g21, PA_g r5 gb⟩, fC_t r3 r6⟩
        rcases ih j' (L' + 1) L0 e (q + 1) g2 1 (by omega) gS (by omega) (by omega) (by omega) ty2 o10 with ⟨f, j2, g3, u1, u2, u4⟩ | ⟨j2, L2, g3, u1, u2, u4, u5, u6, u7, u8, u9, u11⟩
        · refine Or.inl ⟨f, j2, g3, by rw [h59, u1], FX_t (fX_t f1 (fX_t o2 gf)) bL (by omega) u2, fun hm S b u3 qa hlen htp htp' hb => ?_⟩
          obtain ⟨hm1, u3', r1, r2, r3⟩ := rstep hm S b u3 qa hlen htp htp' hb
          obtain ⟨hm2, r4, r5⟩ := u4 hm1 S b u3' r2 hlen htp htp' hb
          exact ⟨hm2, by rw [r1, r4], FC_t r3 r5⟩
        · refine Or.inr ⟨j2, L2, g3, by rw [h59, u1], fX_t f1 (fX_t o2 (fX_t gf u2)), bX_t bL u4 (by omega), u5, by omega, by omega, u8, u9, fun hm S b u3 qa hlen htp htp' hb => ?_⟩
          obtain ⟨hm1, u3', r1, r2, r3⟩ := rstep hm S b u3 qa hlen htp htp' hb
          obtain ⟨hm2, u3'', r4, r5, r6⟩ := u11 hm1 S b u3' r2 hlen htp htp' hb
          exact ⟨hm2, u3'', by rw [r1, r4], r5, fC_t r3 r6⟩
    · refine Or.inr ⟨j, L, g, ?_, fX_r g, bX_r g L, hS, Nat.le_refl _, Nat.le_refl _, hcap, hty, fun hm S b u3 qa hlen htp htp' hb => ?_⟩
      · rw [h72 0, if_neg hor, g62_72, if_neg (fun z => z rfl), if_pos (Or.inr rfl)]
      · have kk := r138 hm S b u3 qa
        rw [if_neg hor] at kk
        obtain ⟨hmd, hma, ed, ea, qa', fa⟩ := s_stl2 (E := E) (d := d' + 6) (w' := w') (c := c) (hl := hl) qa (by omega) htp htp' (by omega)
        exact ⟨hma, u3, by rw [kk, g194_143, if_pos rfl, g194_173, ed, mj_bv_some, g194_179, ea, mj_bv_some], qa', fa⟩
theorem cnd_N {o n : Nat} (hG : txG 3 y t m TY TV BG) (ho : o + n = 8) (hP : Pa E d' w' c hl y t m TY TV BG o n) : Pn E d' w' c hl y t m TY TV BG o n := by
  intro d i L e h hS hcap
  have h0 : ¬ (400 : Int32) < 0 := by decide
  have h63 : mj_dc mj_P E (d + 6 + 3 * n) 62 [.ref 159, .int 0, .int (nI o)] (mj_hw w' c h hl) = mj_bi (mj_dc mj_P E (d + 5 + 3 * n) 62 [.ref 159, .int 1, .int (nI o)] (mj_hw w' c h hl)) (fun x1 h1 => mj_den mj_P E (d + 5 + 3 * n) 62 19 [.ref 159, .int 0, .int (nI o), .int 0, .float 0] [.int x1] h1) := by
    rw [show d + 6 + 3 * n = (d + 5 + 3 * n) + 1 by omega, e62, g62_0, g62_2, if_neg h0, if_neg (fun z => z rfl)]
  rcases hP d i L e h hS hcap with ⟨f, j, g, o1, o2, o3⟩ | ⟨j, L', g, o1, o2, o3, o4, o5, o6, o7, o8, o10, o9⟩
  · refine Or.inl ⟨f, j, g, ?_, o2, fun hm S b u3 q hlen hb hQ => o3 hm S b u3 q (by omega) hb ⟨hQ.1, hQ.2.1⟩⟩
    rw [h63, o1, mj_bi_some, g62_19, g62_27, if_neg (fun z => z rfl), if_pos (Or.inl rfl)]
  · have h59 : mj_dc mj_P E (d + 6 + 3 * n) 62 [.ref 159, .int 0, .int (nI o)] (mj_hw w' c h hl) = mj_den mj_P E (d + 5 + 3 * n) 62 59 [.ref 159, .int 0, .int (nI o), .int (nI 0), .int 1] [] (mj_hw w' c g hl) := by
      rw [h63, o1, mj_bi_some, g62_19, g62_27, if_pos (by decide), g62_36, if_pos (by decide)]; rfl
    rcases lp_N hG ho hP d (m - j + 1) j L' L e 0 g 1 (by omega) o4 o7 (by omega) o6 (tyd_m o8 (by omega)) o10 with ⟨f, j2, g3, u1, u2, u4⟩ | ⟨j2, L2, g3, u1, u2, u4, u5, u6, u7, u8, u9, u11⟩
    · refine Or.inl ⟨f, j2, g3, by rw [h59, u1], FX_t o2 o3 o6 u2, fun hm S b u3 q hlen hb hQ => ?_⟩
      obtain ⟨hm1, u3', r1, r2, r3⟩ := o9 hm S b u3 q (by omega) hQ.1 hQ.2.1 hb
      obtain ⟨hm2, r4, r5⟩ := u4 hm1 S b u3' (Or.inl r2) hlen hQ.2.1 hQ.2.2 hb
      exact ⟨hm2, by rw [r1, r4], FC_t r3 r5⟩
    · refine Or.inr ⟨j2, L2, g3, by rw [h59, u1], fX_t o2 u2, bX_t o3 u4 o6, u5, by omega, by omega, u8, u9, fun hm S b u3 q hlen htp9 htp htp' hb => ?_⟩
      obtain ⟨hm1, u3', r1, r2, r3⟩ := o9 hm S b u3 q (by omega) htp9 htp hb
      obtain ⟨hm2, u3'', r4, r5, r6⟩ := u11 hm1 S b u3' (Or.inl r2) hlen htp htp' hb
      exact ⟨hm2, u3'', by rw [r1, r4], r5, fC_t r3 r6⟩
theorem cnd_all (hG : txG 3 y t m TY TV BG) : ∀ n o, o + n = 8 → Pc E d' w' c hl y t m TY TV BG o n ∧ Pn E d' w' c hl y t m TY TV BG o n := by
  intro n
  induction n with
  | zero =>
    intro o ho
    have a := cnd_C (E := E) (d' := d') (w' := w') (c := c) (hl := hl) hG ho (fun z => absurd rfl z) (fun z => absurd rfl z)
    exact ⟨a, cnd_N hG ho (cnd_A hG ho a)⟩
  | succ n ih =>
    intro o ho
    have a := cnd_C (E := E) (d' := d') (w' := w') (c := c) (hl := hl) hG ho (fun _ => (ih (o + 1) (by omega)).1) (fun _ => (ih (o + 1) (by omega)).2)
    exact ⟨a, cnd_N hG ho (cnd_A hG ho a)⟩
end MJZ16
