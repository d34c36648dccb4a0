/-- they fail alike -/
def cF (E : mj_E) (d' w' c : Nat) (hl : Nat → Nat → Int64) (y : Nat → Nat) (t : Nat) (TY TV BG : Nat → Nat) (h : mj_HI) (i L o M : Nat) (Q : List Nat → Prop) (cls : mj_R) : Prop := ∃ f j g, cls = some (some (.int 0), mj_hw w' c g hl) ∧ FX BG h g L f j ∧ ∀ hm S b u3, RS y t TY TV BG i L h S o hm → S.length ≤ M → b ≤ o → Q S → ∃ hm', mj_den mj_P E (d' + 8) 194 9 [.ref 205, .int (nI b), .int 1, u3] [] (mj_hw w' c hm hl) = some (some (.int (-1)), mj_hw w' c hm' hl) ∧ FC BG hm hm' f j
/-- they go on alike -/
def cO (w' c : Nat) (hl : Nat → Nat → Int64) (m : Nat) (TY TV BG : Nat → Nat) (h : mj_HI) (i L e M : Nat) (cls : mj_R) (K : Nat → Nat → mj_HI → Prop) : Prop := ∃ j L' g, cls = some (some (.int 1), mj_hw w' c g hl) ∧ fX h g ∧ bX h g L ∧ XS m TY TV BG j L' g ∧ i ≤ j ∧ L ≤ L' ∧ iv_ph (g 165) L' + e ≤ j ∧ tyd (g 165) L L' M true ∧ K j L' g
def Pc (E : mj_E) (d' w' c : Nat) (hl : Nat → Nat → Int64) (y : Nat → Nat) (t m : Nat) (TY TV BG : Nat → Nat) (o n : Nat) : Prop := ∀ d i L e h, XS m TY TV BG i L h → iv_ph (h 165) L + e ≤ i → cF E d' w' c hl y t TY TV BG h i L o (3 * o + 2) (fun _ => True) (mj_dc mj_P E (d + 4 + 3 * n) 63 [.ref 159, .int (nI o)] (mj_hw w' c h hl)) ∨ cO w' c hl m TY TV BG h i L e (2 * o + 2) (mj_dc mj_P E (d + 4 + 3 * n) 63 [.ref 159, .int (nI o)] (mj_hw w' c h hl)) (fun j L' g => ∀ hm k S0 b u3, RS y t TY TV BG i L h (List.replicate k 9 ++ S0) o hm → k + S0.length ≤ 3 * o + 2 → k ≤ e → k ≤ o → tpn 9 S0 → b ≤ o → ∀ gk, bX g gk L' → (∀ r, r < k → gk 165 (L' + r) = 18) → ∃ hm' u3', mj_den mj_P E (d' + 8) 194 9 [.ref 205, .int (nI b), .int 1, u3] [] (mj_hw w' c hm hl) = mj_den mj_P E (d' + 8) 194 9 [.ref 205, .int (nI b), .int 0, u3'] [] (mj_hw w' c hm' hl) ∧ RS y t TY TV BG j (L' + k) gk S0 (o - k) hm' ∧ fC hm hm')
/-- an and may wait -/
def PA (y : Nat → Nat) (t : Nat) (TY TV BG : Nat → Nat) (j L : Nat) (g : mj_HI) (S : List Nat) (o : Nat) (hm : mj_HI) : Prop := RS y t TY TV BG j L g S o hm ∨ (1 ≤ L ∧ g 165 (L - 1) = 19 ∧ RS y t TY TV BG j (L - 1) g (10 :: S) o hm)
def Pa (E : mj_E) (d' w' c : Nat) (hl : Nat → Nat → Int64) (y : Nat → Nat) (t m : Nat) (TY TV BG : Nat → Nat) (o n : Nat) : Prop := ∀ d i L e h, XS m TY TV BG i L h → iv_ph (h 165) L + e ≤ i → cF E d' w' c hl y t TY TV BG h i L o (3 * o + 1) (fun S => tpn 9 S ∧ tpn 10 S) (mj_dc mj_P E (d + 5 + 3 * n) 62 [.ref 159, .int 1, .int (nI o)] (mj_hw w' c h hl)) ∨ cO w' c hl m TY TV BG h i L e (2 * o + 1) (mj_dc mj_P E (d + 5 + 3 * n) 62 [.ref 159, .int 1, .int (nI o)] (mj_hw w' c h hl)) (fun j L' g => ¬ (TY j = 2 ∧ TV j = 5) ∧ ∀ hm S b u3, RS y t TY TV BG i L h S o hm → S.length ≤ 3 * o + 1 → tpn 9 S → tpn 10 S → b ≤ o → ∃ hm' u3', mj_den mj_P E (d' + 8) 194 9 [.ref 205, .int (nI b), .int 1, u3] [] (mj_hw w' c hm hl) = mj_den mj_P E (d' + 8) 194 9 [.ref 205, .int (nI b), .int 0, u3'] [] (mj_hw w' c hm' hl) ∧ PA y t TY TV BG j L' g S o hm' ∧ fC hm hm')
def Pn (E : mj_E) (d' w' c : Nat) (hl : Nat → Nat → Int64) (y : Nat → Nat) (t m : Nat) (TY TV BG : Nat → Nat) (o n : Nat) : Prop := ∀ d i L e h, XS m TY TV BG i L h → iv_ph (h 165) L + e ≤ i → cF E d' w' c hl y t TY TV BG h i L o (3 * o) (fun S => tpn 9 S ∧ tpn 10 S ∧ tpn 11 S) (mj_dc mj_P E (d + 6 + 3 * n) 62 [.ref 159, .int 0, .int (nI o)] (mj_hw w' c h hl)) ∨ cO w' c hl m TY TV BG h i L e (2 * o) (mj_dc mj_P E (d + 6 + 3 * n) 62 [.ref 159, .int 0, .int (nI o)] (mj_hw w' c h hl)) (fun j L' g => ∀ hm S b u3, RS y t TY TV BG i L h S o hm → S.length ≤ 3 * o → tpn 9 S → tpn 10 S → tpn 11 S → b ≤ o → ∃ hm' u3', mj_den mj_P E (d' + 8) 194 9 [.ref 205, .int (nI b), .int 1, u3] [] (mj_hw w' c hm hl) = mj_den mj_P E (d' + 8) 194 185 [.ref 205, .int (nI b), .int 0, u3'] [] (mj_hw w' c hm' hl) ∧ RS y t TY TV BG j L' g S o hm' ∧ fC hm hm')
section MJZ14
variable {E : mj_E} {d d' w' c : Nat} {hl : Nat → Nat → Int64} {y TY TV BG : Nat → Nat} {t m : Nat}
theorem RS_g {i L o : Nat} {g g' hm : mj_HI} {S : List Nat} (q : RS y t TY TV BG i L g S o hm) (b : bX g g' L) : RS y t TY TV BG i L g' S o hm := ⟨MS_g q.1 b, q.2⟩
theorem RS_len {i L o : Nat} {g hm : mj_HI} {S : List Nat} (q : RS y t TY TV BG i L g S o hm) : hm 205 29 = nI o := q.2.2.1
/-- one token on, in the midst of a condition -/
theorem RS_st {i L o : Nat} {g hm : mj_HI} {S : List Nat} (hG : txG 3 y t m TY TV BG) (q : RS y t TY TV BG i L g S o hm) (hi : i < m) : ∃ hm' : mj_HI, mj_dc mj_P E (d + 4) 182 [.ref 205] (mj_hw w' c hm hl) = some (none, mj_hw w' c hm' hl) ∧ RS y t TY TV BG (i + 1) L g S o hm' ∧ fC hm hm' := by
  obtain ⟨hm', e, a, b, _⟩ := p_stM (E := E) (d := d) (w' := w') (c := c) (hl := hl) hG q.1 hi
  exact ⟨hm', e, ⟨a, pst_S q.2 b⟩, fS_C b⟩
theorem cnd_C {o n : Nat} (hG : txG 3 y t m TY TV BG) (ho : o + n = 8) (ihC : n ≠ 0 → Pc E d' w' c hl y t m TY TV BG (o + 1) (n - 1)) (ihN : n ≠ 0 → Pn E d' w' c hl y t m TY TV BG (o + 1) (n - 1)) : Pc E d' w' c hl y t m TY TV BG o n := by
  obtain ⟨_, t400, mt, _, hnz, hmz, htv⟩ := id hG
  intro d i L e h hS hcap
  have hile := hS.2.2.1
  have X6 : mj_dc mj_P E (d + 3 + 3 * n) 57 [.ref 159, .int 6] (mj_hw w' c h hl) = some (some (.int (if TY i = 2 ∧ TV i = 6 then 1 else 0)), mj_hw w' c h hl) := by
    rw [show d + 3 + 3 * n = (d + 2 + 3 * n) + 1 by omega]; exact s_wdX (x := 6) hG hile hS.2.1 (by omega)
  have X40 : mj_dc mj_P E (d + 3 + 3 * n) 56 [.ref 159, .int 40] (mj_hw w' c h hl) = some (some (.int (if TY i = 3 ∧ TV i = 40 then 1 else 0)), mj_hw w' c h hl) := by
    rw [show d + 3 + 3 * n = (d + 2 + 3 * n) + 1 by omega]; exact s_sgX (x := 40) hG hile hS.2.1 (by omega)
  have M6 : ∀ hm S, RS y t TY TV BG i L h S o hm → mj_dc mj_P E (d' + 8) 184 [.ref 205, .int 6] (mj_hw w' c hm hl) = some (some (.int (if TY i = 2 ∧ TV i = 6 then 1 else 0)), mj_hw w' c hm hl) := fun hm S q => s_wdM (d := d' + 7) (x := 6) hG hile q.1.2.1 (by decide)
  have M40 : ∀ hm S, RS y t TY TV BG i L h S o hm → mj_dc mj_P E (d' + 8) 185 [.ref 205, .int 40] (mj_hw w' c hm hl) = some (some (.int (if TY i = 3 ∧ TV i = 40 then 1 else 0)), mj_hw w' c hm hl) := fun hm S q => s_sgM (d := d' + 7) (x := 40) hG hile q.1.2.1 (by omega)
  have hent : mj_dc mj_P E (d + 4 + 3 * n) 63 [.ref 159, .int (nI o)] (mj_hw w' c h hl) = mj_den mj_P E (d + 3 + 3 * n) 63 6 [.ref 159, .int (nI o), .float 0, .float 0] [.int (if TY i = 2 ∧ TV i = 6 then 1 else 0)] (mj_hw w' c h hl) := by
    rw [show d + 4 + 3 * n = (d + 3 + 3 * n) + 1 by omega, e63, q63_0, X6, mj_bi_some]
  by_cases hopen : (TY i = 2 ∧ TV i = 6) ∨ (TY i = 3 ∧ TV i = 40)
  · have him : i < m := by
      rcases Nat.lt_or_ge i m with z | z
      · exact z
      · have hz : TY i = 0 := by rw [show i = m by omega]; exact hmz
        rcases hopen with z' | z' <;> omega
    -- not: 1, bracket: 0
    obtain ⟨v2, hv2, h20, r33⟩ : ∃ v2 : Int32, ((v2 = 1 ∧ TY i = 2 ∧ TV i = 6) ∨ (v2 = 0 ∧ ¬ (TY i = 2 ∧ TV i = 6) ∧ TY i = 3 ∧ TV i = 40)) ∧ mj_dc mj_P E (d + 4 + 3 * n) 63 [.ref 159, .int (nI o)] (mj_hw w' c h hl) = mj_den mj_P E (d + 3 + 3 * n) 63 20 [.ref 159, .int (nI o), .int v2, .float 0] [] (mj_hw w' c h hl) ∧ ∀ hm S b u3, RS y t TY TV BG i L h S o hm → mj_den mj_P E (d' + 8) 194 9 [.ref 205, .int (nI b), .int 1, u3] [] (mj_hw w' c hm hl) = mj_den mj_P E (d' + 8) 194 33 [.ref 205, .int (nI b), .int 1, .int v2] [] (mj_hw w' c hm hl) := by
      by_cases h6 : TY i = 2 ∧ TV i = 6
      · refine ⟨1, Or.inl ⟨rfl, h6⟩, ?_, fun hm S b u3 q => ?_⟩
        · rw [hent, if_pos h6, q63_6, if_pos (by decide)]
        · have k6 := M6 hm S q
          rw [if_pos h6] at k6
          rw [g194_9, if_neg (by decide), k6, mj_bi_some, g194_19, if_pos (by decide)]
      · have h40 := hopen.resolve_left h6
        rw [if_pos h40] at X40
        refine ⟨0, Or.inr ⟨rfl, h6, h40⟩, ?_, fun hm S b u3 q => ?_⟩
        · rw [hent, if_neg h6, q63_6, if_neg (fun z => z rfl), X40, mj_bi_some, q63_17, if_neg (by decide)]
        · have k6 := M6 hm S q
          have k40 := M40 hm S q
          rw [if_neg h6] at k6
          rw [if_pos h40] at k40
          rw [g194_9, if_neg (by decide), k6, mj_bi_some, g194_19, if_neg (fun z => z rfl), k40, mj_bi_some, g194_30, if_neg (by decide)]
    by_cases hn : n = 0
    · -- too many are open
      have ho8 : o = 8 := by omega
      obtain ⟨gw, ew, Fw⟩ := p_wrX (E := E) (d := d + 2 + 3 * n) (w' := w') (c := c) (hl := hl) (f := 3) hS
      have ew' : mj_dc mj_P E (d + 3 + 3 * n) 58 [.ref 159, .int 3] (mj_hw w' c h hl) = some (some (.int 0), mj_hw w' c gw hl) := by rw [show d + 3 + 3 * n = (d + 2 + 3 * n) + 1 by omega]; exact ew
      refine Or.inl ⟨3, i, gw, ?_, Fw, fun hm S b u3 q hS' hb _ => ?_⟩
      · rw [h20, q63_20, if_neg (by rw [ho8]; decide), ew', mj_bi_some, q63_31, if_pos (Or.inl rfl)]
      · obtain ⟨hm2, r4, r5⟩ := p_erM (E := E) (d := d' + 7) (w' := w') (c := c) (hl := hl) (f := 3) q.1
        have r4' : mj_dc mj_P E (d' + 8) 183 [.ref 205, .int 3] (mj_hw w' c hm hl) = some (some (.int (-1)), mj_hw w' c hm2 hl) := r4
        refine ⟨hm2, ?_, FM_C r5⟩
        rw [r33 hm S b u3 q, g194_33, RS_len q, if_neg (fun z => z (by rw [ho8]; rfl)), r4', mj_bi_some, g194_47]
    · have ho8 : o < 8 := by omega
      have lt8 : nI o < (8 : Int32) := by rw [show (8 : Int32) = nI 8 from rfl, mj_nIlt (by omega) (by omega)]; exact ho8
      have ne8 : ¬ nI o = (8 : Int32) := by rw [show (8 : Int32) = nI 8 from rfl, mj_nIeq (by omega) (by omega)]; omega
      obtain ⟨h1, e1, S1, f1, fr1⟩ := p_stX (E := E) (d := d + 2 + 3 * n) (w' := w') (c := c) (hl := hl) hG hS him
      have e1' : mj_dc mj_P E (d + 3 + 3 * n) 55 [.ref 159] (mj_hw w' c h hl) = some (none, mj_hw w' c h1 hl) := by rw [show d + 3 + 3 * n = (d + 2 + 3 * n) + 1 by omega]; exact e1
      have b1 : bX h h1 L := fun k _ => ⟨fr1 _ _ (by omega), fr1 _ _ (by omega)⟩
      have ph1 : iv_ph (h1 165) L = iv_ph (h 165) L := bX_ph b1 (Nat.le_refl _)
      have h36 : mj_dc mj_P E (d + 4 + 3 * n) 63 [.ref 159, .int (nI o)] (mj_hw w' c h hl) = mj_den mj_P E (d + 3 + 3 * n) 63 36 [.ref 159, .int (nI o), .int v2, .float 0] [] (mj_hw w' c h1 hl) := by
        rw [h20, q63_20, if_pos lt8, q63_32, e1', mj_bv_some]
      -- the reference puts it down and reads on
      have rpush : ∀ hm S b u3, RS y t TY TV BG i L h S o hm → S.length ≤ 3 * o + 2 → b ≤ o → ∃ hm', mj_den mj_P E (d' + 8) 194 9 [.ref 205, .int (nI b), .int 1, u3] [] (mj_hw w' c hm hl) = mj_den mj_P E (d' + 8) 194 9 [.ref 205, .int (nI (if v2 = 0 then b + 1 else b)), .int 1, .int v2] [] (mj_hw w' c hm' hl) ∧ RS y t TY TV BG (i + 1) L h1 ((if v2 = 0 then 12 else 9) :: S) (o + 1) hm' ∧ fC hm hm' := fun hm S b u3 q hS' hb => by
        obtain ⟨hma, hha⟩ : ∃ hma, hma = mj_u hm 205 29 (nI (o + 1)) := ⟨_, rfl⟩
        have qa : RS y t TY TV BG i L h1 S (o + 1) hma := ⟨MS_g (MS_S q.1 (fun a k z1 z2 => by rw [hha, mj_u_pt (by omega)])) b1, by rw [hha, mj_u_pt (by omega)]; exact q.2.1, by rw [hha, mj_u_eq], stk_c (fun k _ => by rw [hha, mj_u_pt (by omega)]) q.2.2.2.1, q.2.2.2.2⟩
        have fa : fC hm hma := fun a k z1 z2 z3 => by rw [hha, mj_u_pt (by omega)]
        have h66 : mj_den mj_P E (d' + 8) 194 9 [.ref 205, .int (nI b), .int 1, u3] [] (mj_hw w' c hm hl) = mj_den mj_P E (d' + 8) 194 66 [.ref 205, .int (nI (if v2 = 0 then b + 1 else b)), .int 1, .int v2] [] (mj_hw w' c hma hl) := by
          rw [r33 hm S b u3 q, g194_33, RS_len q, if_pos ne8, g194_48, RS_len q, mj_nIs, ← hha]
          by_cases hz : v2 = 0
          · rw [if_neg (fun z => z hz), if_pos hz, mj_nIs]
          · rw [if_pos hz, if_neg hz]
        have h78 : mj_den mj_P E (d' + 8) 194 66 [.ref 205, .int (nI (if v2 = 0 then b + 1 else b)), .int 1, .int v2] [] (mj_hw w' c hma hl) = mj_den mj_P E (d' + 8) 194 78 [.ref 205, .int (nI (if v2 = 0 then b + 1 else b)), .int 1, .int v2] [.int (nI (if v2 = 0 then 12 else 9)), .ref 205] (mj_hw w' c hma hl) := by
          rw [g194_66]
          by_cases hz : v2 = 0
          · rw [if_pos hz, g194_76, if_pos hz, if_pos hz]; rfl
          · rw [if_neg hz, if_neg hz, if_neg hz]; rfl
        obtain ⟨hmb, eb, qb, fb⟩ := s_waitM (E := E) (d := d' + 7) (w' := w') (c := c) (hl := hl) (x := if v2 = 0 then 12 else 9) qa (by split <;> omega) (by omega)
        obtain ⟨hmc, ec, qc, fc⟩ := RS_st (E := E) (d := d' + 4) (w' := w') (c := c) (hl := hl) hG qb him
        exact ⟨hmc, by rw [h66, h78, g194_78, eb, mj_bv_some, g194_81, ec, mj_bv_some, g194_85], qc, fC_t fa (fC_t fb fc)⟩
      rcases hv2 with ⟨rfl, h6⟩ | ⟨rfl, h6, h40⟩
      · -- not
        have z10 : ¬ (1 : Int32) = 0 := by decide
        simp only [if_neg z10] at rpush
        have eo : (nI o + 1 : Int32) = nI (o + 1) := mj_nIs o
        rcases ihC hn (d + 2) (i + 1) L (e + 1) h1 S1 (by omega) with ⟨f, j, g, o1, o2, o3⟩ | ⟨j, L', g, o1, o2, o3, o4, o5, o6, o7, o8, o9⟩
        · rw [show d + 2 + 4 + 3 * (n - 1) = d + 3 + 3 * n by omega] at o1
          refine Or.inl ⟨f, j, g, ?_, FX_t f1 b1 (Nat.le_refl _) o2, fun hm S b u3 q hS' hb _ => ?_⟩
          · rw [h36, q63_36, if_neg z10, eo, o1, mj_bi_some, q63_47, q63_75, if_pos rfl, q63_94, if_pos (Or.inl rfl)]
          · obtain ⟨hm1, r1, r2, r3⟩ := rpush hm S b u3 q hS' hb
            obtain ⟨hm2, r4, r5⟩ := o3 hm1 (9 :: S) b (.int 1) r2 (by show S.length + 1 ≤ _; omega) (by omega) trivial
            exact ⟨hm2, by rw [r1, r4], FC_t r3 r5⟩
        · rw [show d + 2 + 4 + 3 * (n - 1) = d + 3 + 3 * n by omega] at o1
          have hLge := iv_ph_ge (g 165) L'
          have hjm := o4.2.2.1
          obtain ⟨g2, eg, gS, gf, gb, g21, g22, g23⟩ := p_emX (E := E) (d := d + 2 + 3 * n) (w' := w') (c := c) (hl := hl) o4 (by omega) 18 0
          have eg' : mj_dc mj_P E (d + 3 + 3 * n) 17 [.ref 160, .int 18, .int 0] (mj_hw w' c g hl) = some (none, mj_hw w' c g2 hl) := by rw [show d + 3 + 3 * n = (d + 2 + 3 * n) + 1 by omega]; exact eg
          have p2 : iv_ph (g2 165) (L' + 1) = iv_ph (g 165) L' + 1 := by rw [iv_ph_s, g21, if_neg (by decide), bX_ph gb (Nat.le_refl _)]
          refine Or.inr ⟨j, L' + 1, g2, ?_, fX_t f1 (fX_t o2 gf), bX_t b1 (bX_t o3 gb o6) (Nat.le_refl _), gS, by omega, by omega, by omega, tyd_u (tyd_m (tyd_c o8 (fun k z1 z2 => (gb k z2).1)) (by omega)) o6 (fun r => by rw [g21]; exact ty_18 r), fun hm k S0 b u3 q hlen hke hko htp hb gk hgk hg18 => ?_⟩
          · rw [h36, q63_36, if_neg z10, eo, o1, mj_bi_some, q63_47, q63_75, if_neg z10, if_neg z10, eg', mj_bv_some, q63_94, if_pos (Or.inr rfl)]
          · obtain ⟨hm1, r1, r2, r3⟩ := rpush hm (List.replicate k 9 ++ S0) b u3 q (by rw [List.length_append, List.length_replicate]; omega) hb
            obtain ⟨hm2, u3', r4, r5, r6⟩ := o9 hm1 (k + 1) S0 b (.int 1) r2 (by omega) (by omega) (by omega) htp (by omega) gk (bX_t gb hgk (by omega)) (fun r hr => by
              by_cases hr0 : r = 0
              · subst hr0; rw [Nat.add_zero, (hgk L' (by omega)).1]; exact g21
              · rw [show L' + r = L' + 1 + (r - 1) by omega]; exact hg18 (r - 1) (by omega))
            refine ⟨hm2, u3', by rw [r1, r4], ?_, fC_t r3 r6⟩
            rw [show L' + 1 + k = L' + (k + 1) by omega, show o - k = o + 1 - (k + 1) by omega]; exact r5
      · -- a bracket
        simp only [if_true] at rpush
        have eo : (nI o + 1 : Int32) = nI (o + 1) := mj_nIs o
        rcases ihN hn d (i + 1) L e h1 S1 (by omega) with ⟨f, j, g, o1, o2, o3⟩ | ⟨j, L', g, o1, o2, o3, o4, o5, o6, o7, o8, o9⟩
        · rw [show d + 6 + 3 * (n - 1) = d + 3 + 3 * n by omega] at o1
          refine Or.inl ⟨f, j, g, ?_, FX_t f1 b1 (Nat.le_refl _) o2, fun hm S b u3 q hS' hb _ => ?_⟩
          · rw [h36, q63_36, if_pos rfl, q63_50, eo, o1, mj_bi_some, q63_58, if_pos rfl, q63_74, q63_75, if_pos rfl, q63_94, if_pos (Or.inl rfl)]
          · obtain ⟨hm1, r1, r2, r3⟩ := rpush hm S b u3 q hS' hb
            obtain ⟨hm2, r4, r5⟩ := o3 hm1 (12 :: S) (b + 1) (.int 0) r2 (by show S.length + 1 ≤ _; omega) (by omega) ⟨fun z R ez => by injection ez with e1 _; omega, fun z R ez => by injection ez with e1 _; omega, fun z R ez => by injection ez with e1 _; omega⟩
            exact ⟨hm2, by rw [r1, r4], FC_t r3 r5⟩
        · rw [show d + 6 + 3 * (n - 1) = d + 3 + 3 * n by omega] at o1
          have hjm := o4.2.2.1
          have hin : mj_dc mj_P E (d + 4 + 3 * n) 63 [.ref 159, .int (nI o)] (mj_hw w' c h hl) = mj_bi (mj_dc mj_P E (d + 3 + 3 * n) 59 [.ref 159, .int 41] (mj_hw w' c g hl)) (fun x1 h1 => mj_den mj_P E (d + 3 + 3 * n) 63 67 [.ref 159, .int (nI o), .int 0, .float 0] [.int x1] h1) := by
            rw [h36, q63_36, if_pos rfl, q63_50, eo, o1, mj_bi_some, q63_58, if_neg (by decide)]
          have X41 : mj_dc mj_P E (d + 2 + 3 * n) 56 [.ref 159, .int 41] (mj_hw w' c g hl) = some (some (.int (if TY j = 3 ∧ TV j = 41 then 1 else 0)), mj_hw w' c g hl) := by
            rw [show d + 2 + 3 * n = (d + 1 + 3 * n) + 1 by omega]; exact s_sgX (x := 41) hG hjm o4.2.1 (by omega)
          have M41 : ∀ hm S, RS y t TY TV BG j L' g S (o + 1) hm → mj_dc mj_P E (d' + 8) 185 [.ref 205, .int 41] (mj_hw w' c hm hl) = some (some (.int (if TY j = 3 ∧ TV j = 41 then 1 else 0)), mj_hw w' c hm hl) := fun hm S q => s_sgM (d := d' + 7) (x := 41) hG hjm q.1.2.1 (by omega)
          have bne : ∀ b, b ≤ o → ¬ nI (b + 1) = (0 : Int32) := fun b hb => by rw [show (0 : Int32) = nI 0 from rfl, mj_nIeq (by omega) (by omega)]; omega
          by_cases hcl : TY j = 3 ∧ TV j = 41
          · rw [if_pos hcl] at X41
            have hjlt : j < m := by
              rcases Nat.lt_or_ge j m with z | z
              · exact z
              · have hz : TY j = 0 := by rw [show j = m by omega]; exact hmz
                omega
            obtain ⟨g1, eg, gS, gf, gfr⟩ := p_stX (E := E) (d := d + 1 + 3 * n) (w' := w') (c := c) (hl := hl) hG o4 hjlt
            have eg' : mj_dc mj_P E (d + 2 + 3 * n) 55 [.ref 159] (mj_hw w' c g hl) = some (none, mj_hw w' c g1 hl) := by rw [show d + 2 + 3 * n = (d + 1 + 3 * n) + 1 by omega]; exact eg
            have gb : bX g g1 L' := fun k _ => ⟨gfr _ _ (by omega), gfr _ _ (by omega)⟩
            have gph : iv_ph (g1 165) L' = iv_ph (g 165) L' := bX_ph gb (Nat.le_refl _)
            refine Or.inr ⟨j + 1, L', g1, ?_, fX_t f1 (fX_t o2 gf), bX_t b1 (bX_t o3 gb o6) (Nat.le_refl _), gS, by omega, o6, by omega, tyd_m (tyd_c o8 (fun k z1 z2 => (gb k z2).1)) (by omega), fun hm k S0 b u3 q hlen hke hko htp hb gk hgk hg18 => ?_⟩
            · rw [hin, show d + 3 + 3 * n = (d + 2 + 3 * n) + 1 by omega, e59, q59_0, X41, mj_bi_some, q59_5, if_pos (by decide), q59_14, eg', mj_bv_some, q59_18, if_pos (Or.inr rfl), mj_bi_some, q63_67, if_neg (by decide), q63_75, if_neg (by decide), if_pos rfl, q63_94, if_pos (Or.inr rfl)]
            · have hl0 : (List.replicate k 9 ++ S0).length = k + S0.length := by rw [List.length_append, List.length_replicate]
              obtain ⟨hm1, r1, r2, r3⟩ := rpush hm (List.replicate k 9 ++ S0) b u3 q (by omega) hb
              obtain ⟨hm2, u3', r4, r5, r6⟩ := o9 hm1 (12 :: (List.replicate k 9 ++ S0)) (b + 1) (.int 0) r2 (by show (List.replicate k 9 ++ S0).length + 1 ≤ _; omega) (fun z R ez => by injection ez with e1 _; omega) (fun z R ez => by injection ez with e1 _; omega) (fun z R ez => by injection ez with e1 _; omega) (by omega)
              have k41 := M41 hm2 _ r5
              rw [if_pos hcl] at k41
              obtain ⟨hm3, hh3⟩ : ∃ hm3, hm3 = mj_u (mj_u hm2 205 31 (nI (k + S0.length))) 205 29 (nI o) := ⟨_, rfl⟩
              have q3 : RS y t TY TV BG j L' g (List.replicate k 9 ++ S0) o hm3 := ⟨MS_S r5.1 (fun a k z1 z2 => by rw [hh3, mj_u_pt (by omega), mj_u_pt (by omega)]), by rw [hh3, mj_u_pt (by omega), mj_u_eq, hl0], by rw [hh3, mj_u_eq], stk_c (fun k _ => by rw [hh3, mj_u_pt (by omega), mj_u_pt (by omega)]) r5.2.2.2.1.2, fun z hz => r5.2.2.2.2 z (List.mem_cons_of_mem _ hz)⟩
              have f3 : fC hm2 hm3 := fun a k z1 z2 z3 => by rw [hh3, mj_u_pt (by omega), mj_u_pt (by omega)]
              have v31 : hm2 205 31 - 1 = nI (k + S0.length) := by
                rw [r5.2.1, show (12 :: (List.replicate k 9 ++ S0)).length = k + S0.length + 1 by rw [← hl0]; rfl, mj_nIp (by omega)]; rfl
              have v29 : hm2 205 29 - 1 = nI o := by rw [r5.2.2.1, mj_nIp (by omega)]; rfl
              have vb : nI (b + 1) - 1 = nI b := by rw [mj_nIp (by omega)]; rfl
              obtain ⟨hm4, e4, q4, f4⟩ := s_setN (E := E) (d := d' + 6) (w' := w') (c := c) (hl := hl) k (gk := gk) q3 htp hko (by omega) (by omega) (bX_t gb hgk (Nat.le_refl _)) hg18
              obtain ⟨hm5, e5, q5, f5⟩ := RS_st (E := E) (d := d' + 4) (w' := w') (c := c) (hl := hl) hG q4 hjlt
              refine ⟨hm5, u3', ?_, q5, fC_t r3 (fC_t r6 (fC_t f3 (fC_t f4 f5)))⟩
              have e4' : mj_dc mj_P E (d' + 8) 193 [.ref 205, .int 9] (mj_hw w' c hm3 hl) = some (none, mj_hw w' c hm4 hl) := by rw [e193]; exact e4
              rw [r1, r4, g194_185, if_pos (bne b hb), g194_191, k41, mj_bi_some, g194_197, if_pos (by decide), g194_206, v31, v29, ← hh3, e4', mj_bv_some, vb, g194_236, e5, mj_bv_some, g194_240]
          · rw [if_neg hcl] at X41
            obtain ⟨gw, ew, Fw⟩ := p_wrX (E := E) (d := d + 1 + 3 * n) (w' := w') (c := c) (hl := hl) (f := 1) o4
            have ew' : mj_dc mj_P E (d + 2 + 3 * n) 58 [.ref 159, .int 1] (mj_hw w' c g hl) = some (some (.int 0), mj_hw w' c gw hl) := by rw [show d + 2 + 3 * n = (d + 1 + 3 * n) + 1 by omega]; exact ew
            refine Or.inl ⟨1, j, gw, ?_, FX_t (fX_t f1 o2) (bX_t b1 o3 (Nat.le_refl _)) o6 Fw, fun hm S b u3 q hS' hb _ => ?_⟩
            · rw [hin, show d + 3 + 3 * n = (d + 2 + 3 * n) + 1 by omega, e59, q59_0, X41, mj_bi_some, q59_5, if_neg (fun z => z rfl), ew', mj_bi_some, q59_13, if_pos (Or.inl rfl), mj_bi_some, q63_67, if_pos rfl, q63_74, q63_75, if_pos rfl, q63_94, if_pos (Or.inl rfl)]
            · obtain ⟨hm1, r1, r2, r3⟩ := rpush hm S b u3 q hS' hb
              obtain ⟨hm2, u3', r4, r5, r6⟩ := o9 hm1 (12 :: S) (b + 1) (.int 0) r2 (by show S.length + 1 ≤ _; omega) (fun z R ez => by injection ez with e1 _; omega) (fun z R ez => by injection ez with e1 _; omega) (fun z R ez => by injection ez with e1 _; omega) (by omega)
              have k41 := M41 hm2 _ r5
              rw [if_neg hcl] at k41
              obtain ⟨hm3, e3, F3⟩ := p_erM (E := E) (d := d' + 7) (w' := w') (c := c) (hl := hl) (f := 1) r5.1
              have e3' : mj_dc mj_P E (d' + 8) 183 [.ref 205, .int 1] (mj_hw w' c hm2 hl) = some (some (.int (-1)), mj_hw w' c hm3 hl) := e3
              refine ⟨hm3, ?_, FC_t r3 (FC_t r6 (FM_C F3))⟩
              rw [r1, r4, g194_185, if_pos (bne b hb), g194_191, k41, mj_bi_some, g194_197, if_neg (fun z => z rfl), e3', mj_bi_some, g194_205]
  · -- a comparison
    have h6 : ¬ (TY i = 2 ∧ TV i = 6) := fun z => hopen (Or.inl z)
    have h40 : ¬ (TY i = 3 ∧ TV i = 40) := fun z => hopen (Or.inr z)
    rw [if_neg h40] at X40
    have h96 : mj_dc mj_P E (d + 4 + 3 * n) 63 [.ref 159, .int (nI o)] (mj_hw w' c h hl) = mj_den mj_P E (d + 3 * n + 3) 63 96 [.ref 159, .int (nI o), .int 0, .float 0] [] (mj_hw w' c h hl) := by
      rw [hent, if_neg h6, q63_6, if_neg (fun z => z rfl), X40, mj_bi_some, q63_17, if_pos rfl, show d + 3 + 3 * n = d + 3 * n + 3 by omega]
    have r88 : ∀ hm S b u3, RS y t TY TV BG i L h S o hm → mj_den mj_P E (d' + 8) 194 9 [.ref 205, .int (nI b), .int 1, u3] [] (mj_hw w' c hm hl) = mj_bi (mj_dc mj_P E (d' + 8) 191 [.ref 205] (mj_hw w' c hm hl)) (fun x1 h1 => mj_den mj_P E (d' + 8) 194 92 [.ref 205, .int (nI b), .int 1, .int 0] [.int x1] h1) := fun hm S b u3 q => by
      have k6 := M6 hm S q
      have k40 := M40 hm S q
      rw [if_neg h6] at k6
      rw [if_neg h40] at k40
      rw [g194_9, if_neg (by decide), k6, mj_bi_some, g194_19, if_neg (fun z => z rfl), k40, mj_bi_some, g194_30, if_pos rfl, g194_88]
    rcases s_cmp (E := E) (d := d + 3 * n) (d' := d') (w' := w') (c := c) (hl := hl) (e := e) hG hS hcap (nI o) 0 with ⟨f, j, g, o1, o2, o3⟩ | ⟨j, L', g, o1, o2, o3, o4, o5, o6, o7, o8, o9⟩
    · refine Or.inl ⟨f, j, g, by rw [h96, o1], o2, fun hm S b u3 q hS' hb _ => ?_⟩
      obtain ⟨hm1, r1, r2⟩ := o3 hm q.1
      have r1' : mj_dc mj_P E (d' + 8) 191 [.ref 205] (mj_hw w' c hm hl) = some (some (.int (-1)), mj_hw w' c hm1 hl) := r1
      exact ⟨hm1, by rw [r88 hm S b u3 q, r1', mj_bi_some, g194_92, if_neg (fun z => z rfl)], FM_C r2⟩
    · have hjm := o4.2.2.1
      refine Or.inr ⟨j, L', g, by rw [h96, o1], o2, o3, o4, o5, o6, o7, tyd_m o8 (by omega), fun hm k S0 b u3 q hlen hke hko htp hb gk hgk hg18 => ?_⟩
      obtain ⟨hm1, r1, r2, r3⟩ := o9 hm q.1
      have r1' : mj_dc mj_P E (d' + 8) 191 [.ref 205] (mj_hw w' c hm hl) = some (some (.int 0), mj_hw w' c hm1 hl) := r1
      have q1 : RS y t TY TV BG j L' g (List.replicate k 9 ++ S0) o hm1 := ⟨r3, pst_S q.2 r2⟩
      obtain ⟨hm4, e4, q4, f4⟩ := s_setN (E := E) (d := d' + 6) (w' := w') (c := c) (hl := hl) k (gk := gk) q1 htp hko (by omega) (by omega) hgk hg18
      have e4' : mj_dc mj_P E (d' + 8) 193 [.ref 205, .int 9] (mj_hw w' c hm1 hl) = some (none, mj_hw w' c hm4 hl) := by rw [e193]; exact e4
      exact ⟨hm4, _, by rw [r88 hm _ b u3 q, r1', mj_bi_some, g194_92, if_pos (by decide), g194_98, e4', mj_bv_some, g194_104], q4, fC_t (fS_C r2) f4⟩
end MJZ14
