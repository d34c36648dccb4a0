/-- token i is an operand -/
def opd (TY TV : Nat → Nat) (i : Nat) : Prop := TY i = 1 ∨ (TY i = 2 ∧ 7 ≤ TV i)
/-- its code -/
def opc (TY TV : Nat → Nat) (i : Nat) : Int32 := if TY i = 1 then 10 else nI (TV i - 7)
def opa (TY TV : Nat → Nat) (i : Nat) : Int32 := if TY i = 1 then nI (TV i) else 0
theorem opc_ty {TY TV : Nat → Nat} {i : Nat} (h : TV i < 17 ∨ TY i = 1) : ∃ x, x ≤ 10 ∧ opc TY TV i = nI x := by
  unfold opc
  by_cases h1 : TY i = 1
  · exact ⟨10, by omega, by rw [if_pos h1]; rfl⟩
  · exact ⟨TV i - 7, by omega, by rw [if_neg h1]⟩
theorem nI14 {x : Nat} (hx : x ≤ 13) : ¬ nI x = (14 : Int32) := by rw [show (14 : Int32) = nI 14 from rfl, mj_nIeq (by omega) (by omega)]; omega
theorem s_erM_ex {E : mj_E} {d w w' c : Nat} {hl : Nat → Nat → Int64} {y TY TV BG : Nat → Nat} {t i f : Nat} {h : mj_HI} (hB : txB w y t TY TV BG i h) : ∃ hm : mj_HI, mj_dc mj_P E (d + 1) 183 [.ref 205, .int (nI f)] (mj_hw w' c h hl) = some (some (.int (-1)), mj_hw w' c hm hl) ∧ FM BG h hm f i := by
  refine ⟨_, s_erM hB, fun a k h1 h2 => ?_, ?_, mj_u_eq⟩
  · rw [mj_u_pt (by omega), mj_u_pt (by omega)]
  · rw [mj_u_pt (by omega), mj_u_eq]
section MJZ10
variable {E : mj_E} {d d' w' c : Nat} {hl : Nat → Nat → Int64} {y TY TV BG : Nat → Nat} {t m : Nat}
/-- an operand behind a join -/
theorem s_headX {i L q : Nat} {h : mj_HI} {v1 : Int32} (hG : txG 3 y t m TY TV BG) (hS : XS m TY TV BG i L h) (hq : q ≤ 400) (hv : v1 = -1 ∨ v1 = 13 ∨ v1 = 14) (hL : i < m → L + 1 < 400 ∨ (v1 ≠ 13 ∧ L < 400)) (u3 u4 : Value) : (∃ f g, mj_den mj_P E (d + 1) 65 4 [.ref 159, .int v1, .int (nI q), u3, u4] [] (mj_hw w' c h hl) = some (some (.int 0), mj_hw w' c g hl) ∧ FX BG h g L f i ∧ ((f = 1 ∧ v1 ≠ 14 ∧ ¬ opd TY TV i) ∨ (f = 1 ∧ v1 = 14 ∧ TY i ≠ 1) ∨ (f = 2 ∧ v1 = 14 ∧ TY i = 1 ∧ TV i = 0))) ∨ (∃ (g : mj_HI) (L' : Nat) (a3 a4 : Int32), mj_den mj_P E (d + 1) 65 4 [.ref 159, .int v1, .int (nI q), u3, u4] [] (mj_hw w' c h hl) = mj_den mj_P E (d + 1) 65 167 [.ref 159, .int v1, .int (nI q), .int a3, .int a4] [] (mj_hw w' c g hl) ∧ i < m ∧ XS m TY TV BG (i + 1) L' g ∧ fX h g ∧ bX h g L ∧ ((v1 = -1 ∧ opd TY TV i ∧ L' = L + 1 ∧ g 165 L = opc TY TV i ∧ g 166 L = opa TY TV i) ∨ (v1 = 13 ∧ opd TY TV i ∧ L' = L + 2 ∧ g 165 L = opc TY TV i ∧ g 166 L = opa TY TV i ∧ g 165 (L + 1) = 13) ∨ (v1 = 14 ∧ TY i = 1 ∧ TV i ≠ 0 ∧ L' = L + 1 ∧ g 165 L = 14 ∧ g 166 L = nI (TV i)))) := by
  obtain ⟨h1, h2, h3, h4⟩ := hG.2.2.2.2.2.2 i hS.2.2.1
  have hA := hS.2.1
  have n4 : ¬ (400 : Int32) < nI q := by rw [show (400 : Int32) = nI 400 from rfl, mj_nIlt (by omega) (by omega)]; omega
  have e1 : (1 : Int32) = nI 1 := rfl
  have e2 : (2 : Int32) = nI 2 := rfl
  have hk11 := hA.2.1
  have him : TY i ≠ 0 → i < m := fun hz => by
    rcases Nat.lt_or_ge i m with h | h
    · exact h
    · exact absurd (by rw [show i = m by have := hS.2.2.1; omega]; exact hG.2.2.2.2.2.1) hz
  -- what is seen of the token
  obtain ⟨a3, a4, hsee, hs3, hs4⟩ : ∃ a3 a4 : Int32, mj_den mj_P E (d + 1) 65 4 [.ref 159, .int v1, .int (nI q), u3, u4] [] (mj_hw w' c h hl) = mj_den mj_P E (d + 1) 65 47 [.ref 159, .int v1, .int (nI q), .int a3, u4] [.int a4] (mj_hw w' c h hl) ∧ a3 = (if TY i = 1 then 1 else 0) ∧ a4 = (if TY i = 2 ∧ 7 ≤ TV i then 1 else 0) := by
    have t1 : nI (TY i) = (1 : Int32) ↔ TY i = 1 := by rw [show (1 : Int32) = nI 1 from rfl, mj_nIeq (by omega) (by omega)]
    have t2 : nI (TY i) = (2 : Int32) ↔ TY i = 2 := by rw [show (2 : Int32) = nI 2 from rfl, mj_nIeq (by omega) (by omega)]
    rw [g65_4, if_neg n4, hk11]
    by_cases q1 : TY i = 1
    · have n2 : ¬ nI (TY i) = 2 := fun z => by have := t2.mp z; omega
      refine ⟨1, 0, ?_, (by rw [if_pos q1]), (by rw [if_neg (fun z => by omega)])⟩
      rw [if_neg (fun z => z (t1.mpr q1)), g65_24, hk11, if_pos n2, g65_46]
    · rw [if_pos (fun z => q1 (t1.mp z)), g65_23, g65_24, hk11]
      by_cases q2 : TY i = 2
      · have hv12 := hA.2.2.1 (by omega)
        have hb := h3 q2
        have hbb := h2 (by omega)
        have t7 : nI (TV i) < (7 : Int32) ↔ TV i < 7 := by rw [show (7 : Int32) = nI 7 from rfl, mj_nIlt (by omega) (by omega)]
        rw [if_neg (fun z => z (t2.mpr q2)), hv12]
        by_cases q3 : 7 ≤ TV i
        · refine ⟨0, 1, ?_, (by rw [if_neg q1]), (by rw [if_pos ⟨q2, q3⟩])⟩
          rw [if_neg (fun z => by have := t7.mp z; omega)]
        · refine ⟨0, 0, ?_, (by rw [if_neg q1]), (by rw [if_neg (fun z => q3 z.2)])⟩
          rw [if_pos (t7.mpr (by omega)), g65_46]
      · refine ⟨0, 0, ?_, (by rw [if_neg q1]), (by rw [if_neg (fun z => q2 z.1)])⟩
        rw [if_pos (fun z => q2 (t2.mp z)), g65_46]
  rw [hsee, g65_47]
  obtain ⟨gw, ew, Fw⟩ := p_wrX (E := E) (d := d) (w' := w') (c := c) (hl := hl) (f := 1) hS
  have h71 : mj_den mj_P E (d + 1) 65 71 [.ref 159, .int v1, .int (nI q), .int a3, .int a4] [] (mj_hw w' c h hl) = some (some (.int 0), mj_hw w' c gw hl) := by
    have ew' : mj_dc mj_P E (d + 1) 58 [.ref 159, .int 1] (mj_hw w' c h hl) = some (some (.int 0), mj_hw w' c gw hl) := ew
    rw [g65_71, ew', mj_bi_some, g65_76, if_pos (Or.inl rfl)]
  by_cases hv14 : v1 = 14
  · -- behind a division
    rw [if_neg (fun z => z hv14)]
    by_cases q1 : TY i = 1
    · rw [if_pos q1] at hs3
      have ha3 : ¬ a3 = 0 := by rw [hs3]; decide
      have hv12 := hA.2.2.1 (by omega)
      rw [if_pos ha3, g65_77, if_neg (fun z => z hv14), hv12]
      by_cases qz : TV i = 0
      · obtain ⟨gz, ez, Fz⟩ := p_wrX (E := E) (d := d) (w' := w') (c := c) (hl := hl) (f := 2) hS
        have ez' : mj_dc mj_P E (d + 1) 58 [.ref 159, .int 2] (mj_hw w' c h hl) = some (some (.int 0), mj_hw w' c gz hl) := ez
        left
        refine ⟨2, gz, ?_, Fz, Or.inr (Or.inr ⟨rfl, hv14, q1, qz⟩)⟩
        rw [if_neg (fun z => z (by rw [qz]; rfl)), ez', mj_bi_some, g65_95, if_pos (Or.inl rfl)]
      · have him' := him (by omega)
        have hL4 : L < 400 := by rcases hL him' with z | z <;> omega
        obtain ⟨g, eg, gS, gf, gb, g1, g2, g3⟩ := p_emX (E := E) (d := d) (w' := w') (c := c) (hl := hl) hS hL4 14 (nI (TV i))
        obtain ⟨g', eg', gS', gf', gfr⟩ := p_stX (E := E) (d := d) (w' := w') (c := c) (hl := hl) hG gS him'
        right
        have hTV : ¬ nI (TV i) = (0 : Int32) := by rw [mj_ez (by have := h2 (by omega); omega)]; exact qz
        refine ⟨g', L + 1, a3, a4, ?_, him', gS', fX_t gf gf', bX_t gb (fun k _ => ⟨gfr _ _ (by omega), gfr _ _ (by omega)⟩) (Nat.le_refl _), Or.inr (Or.inr ⟨hv14, q1, qz, rfl, by rw [gfr _ _ (by omega)]; exact g1, by rw [gfr _ _ (by omega)]; exact g2⟩)⟩
        have n13 : ¬ v1 = 13 := by rw [hv14]; decide
        rw [if_pos hTV, g65_96, hv12, eg, mj_bv_some, g65_109, g65_147, if_pos n13, g65_163, eg', mj_bv_some]
    · rw [if_neg q1] at hs3
      left
      exact ⟨1, gw, by rw [if_neg (fun z => z hs3)]; exact h71, Fw, Or.inr (Or.inl ⟨rfl, hv14, q1⟩)⟩
  · rw [if_pos hv14, g65_62]
    by_cases ho : opd TY TV i
    · have him' := him (by rcases ho with z | z <;> omega)
      have hL4 : L < 400 := by rcases hL him' with z | z <;> omega
      have h77 : (if ¬ a3 = 0 then mj_den mj_P E (d + 1) 65 77 [.ref 159, .int v1, .int (nI q), .int a3, .int a4] [] (mj_hw w' c h hl) else if ¬ a4 = 0 then mj_den mj_P E (d + 1) 65 77 [.ref 159, .int v1, .int (nI q), .int a3, .int a4] [] (mj_hw w' c h hl) else mj_den mj_P E (d + 1) 65 71 [.ref 159, .int v1, .int (nI q), .int a3, .int a4] [] (mj_hw w' c h hl)) = mj_den mj_P E (d + 1) 65 77 [.ref 159, .int v1, .int (nI q), .int a3, .int a4] [] (mj_hw w' c h hl) := by
        rcases ho with z | z
        · rw [if_pos (by rw [hs3, if_pos z]; decide)]
        · by_cases z3 : a3 = 0
          · rw [if_neg (fun k => k z3), if_pos (by rw [hs4, if_pos z]; decide)]
          · rw [if_pos z3]
      obtain ⟨g, eg, gS, gf, gb, g1, g2, g3⟩ := p_emX (E := E) (d := d) (w' := w') (c := c) (hl := hl) hS hL4 (opc TY TV i) (opa TY TV i)
      have h147 : mj_den mj_P E (d + 1) 65 77 [.ref 159, .int v1, .int (nI q), .int a3, .int a4] [] (mj_hw w' c h hl) = mj_den mj_P E (d + 1) 65 147 [.ref 159, .int v1, .int (nI q), .int a3, .int a4] [] (mj_hw w' c g hl) := by
        have hv12 := hA.2.2.1 (by rcases ho with z | z <;> omega)
        rw [g65_77, if_pos hv14, g65_112]
        by_cases q1 : TY i = 1
        · have z3 : ¬ a3 = 0 := by rw [hs3, if_pos q1]; decide
          have c1 : opc TY TV i = 10 := if_pos q1
          have c2 : opa TY TV i = nI (TV i) := if_pos q1
          rw [c1, c2] at eg
          rw [if_neg z3, g65_132, if_neg z3, hv12, g65_144, eg, mj_bv_some]
        · have z3 : a3 = 0 := by rw [hs3, if_neg q1]
          have q2 : TY i = 2 ∧ 7 ≤ TV i := ho.resolve_left q1
          have c1 : opc TY TV i = nI (TV i - 7) := if_neg q1
          have c2 : opa TY TV i = 0 := if_neg q1
          have e7 : nI (TV i) - 7 = nI (TV i - 7) := by rw [show (7 : Int32) = nI 7 from rfl, mj_nIsub q2.2]
          rw [c1, c2] at eg
          rw [if_pos z3, g65_125, hv12, e7, g65_132, if_pos z3, g65_143, g65_144, eg, mj_bv_some]
      right
      rw [h77, h147, g65_147]
      rcases hv with hv | hv | hv
      · have n13 : ¬ v1 = 13 := by rw [hv]; decide
        obtain ⟨g', eg', gS', gf', gfr⟩ := p_stX (E := E) (d := d) (w' := w') (c := c) (hl := hl) hG gS him'
        refine ⟨g', L + 1, a3, a4, ?_, him', gS', fX_t gf gf', bX_t gb (fun k _ => ⟨gfr _ _ (by omega), gfr _ _ (by omega)⟩) (Nat.le_refl _), Or.inl ⟨hv, ho, rfl, by rw [gfr _ _ (by omega)]; exact g1, by rw [gfr _ _ (by omega)]; exact g2⟩⟩
        rw [if_pos n13, g65_163, eg', mj_bv_some]
      · have hL5 : L + 1 < 400 := by exact (hL him').resolve_right (fun z => z.1 hv)
        obtain ⟨g5, eg5, gS5, gf5, gb5, g51, g52, g53⟩ := p_emX (E := E) (d := d) (w' := w') (c := c) (hl := hl) gS hL5 13 0
        obtain ⟨g', eg', gS', gf', gfr⟩ := p_stX (E := E) (d := d) (w' := w') (c := c) (hl := hl) hG gS5 him'
        refine ⟨g', L + 2, a3, a4, ?_, him', gS', fX_t gf (fX_t gf5 gf'), bX_t gb (bX_t gb5 (fun k _ => ⟨gfr _ _ (by omega), gfr _ _ (by omega)⟩) (Nat.le_refl _)) (by omega), Or.inr (Or.inl ⟨hv, ho, rfl, by rw [gfr _ _ (by omega), (gb5 L (by omega)).1]; exact g1, by rw [gfr _ _ (by omega), (gb5 L (by omega)).2]; exact g2, by rw [gfr _ _ (by omega)]; exact g51⟩)⟩
        rw [if_neg (fun z => z hv), eg5, mj_bv_some, g65_163, eg', mj_bv_some]
      · exact absurd hv hv14
    · left
      have z3 : a3 = 0 := by rw [hs3, if_neg (fun z => ho (Or.inl z))]
      have z4 : a4 = 0 := by rw [hs4, if_neg (fun z => ho (Or.inr z))]
      exact ⟨1, gw, by rw [if_neg (fun z => z z3), if_neg (fun z => z z4)]; exact h71, Fw, Or.inl ⟨rfl, hv14, ho⟩⟩
/-- the reference's operand -/
theorem s_unitM {i C : Nat} {h : mj_HI} (hG : txG 3 y t m TY TV BG) (him : i ≤ m) (hM : txM t y h) (hB : txB 3 y t TY TV BG i h) (h28 : h 205 28 = nI C) : (opd TY TV i → C < 400 → ∃ hm : mj_HI, mj_dc mj_P E (d' + 5) 188 [.ref 205] (mj_hw w' c h hl) = some (some (.int 0), mj_hw w' c hm hl) ∧ txM t y hm ∧ txB 3 y t TY TV BG (i + 1) hm ∧ hm 205 28 = nI (C + 1) ∧ hm 221 (800 + C) = (if TY i = 1 then 0 else 1) ∧ hm 222 (800 + C) = (if TY i = 1 then nI (TV i) else nI (TV i - 7)) ∧ ∀ a k, ¬ (a = 205 ∧ ((15 ≤ k ∧ k ≤ 18) ∨ k = 28)) → ¬ ((a = 221 ∨ a = 222) ∧ k = 800 + C) → hm a k = h a k) ∧ (¬ opd TY TV i → ∃ hm : mj_HI, mj_dc mj_P E (d' + 5) 188 [.ref 205] (mj_hw w' c h hl) = some (some (.int (-1)), mj_hw w' c hm hl) ∧ FM BG h hm 1 i) := by
  obtain ⟨h1, h2, h3, h4⟩ := hG.2.2.2.2.2.2 i him
  obtain ⟨r1, r2, r3, r4, r5, r6⟩ := rtk_tok hB.2.2
  -- is it asked for
  have hask : mj_dc mj_P E (d' + 5) 188 [.ref 205] (mj_hw w' c h hl) = mj_den mj_P E (d' + 4) 188 24 [.ref 205, .float 0] [.int (if TY i = 2 ∧ 7 ≤ TV i then 1 else 0)] (mj_hw w' c h hl) := by
    rw [e188, q188_0]
    have hcan : ∀ x, x < 25 → mj_dc mj_P E (d' + 4) 187 [.ref 205, .int (nI x)] (mj_hw w' c h hl) = some (some (.int (if 7 ≤ x ∧ x ≤ 16 then 1 else 0)), mj_hw w' c h hl) := fun x hx => by
      have e1 : (7 ≤ nI x ∧ nI x ≤ 16) = (7 ≤ x ∧ x ≤ 16) := by rw [show (7 : Int32) = nI 7 from rfl, show (16 : Int32) = nI 16 from rfl, mj_nIle (by omega) (by omega), mj_nIle (by omega) (by omega)]
      rw [e187, q187_0, s_isIn]
      by_cases z : 7 ≤ x ∧ x ≤ 16
      · have z' : (7 ≤ nI x ∧ nI x ≤ 16) := by rw [e1]; exact z
        rw [if_pos z]
        simp only [mj_b, z', ↓reduceIte, Bool.false_eq_true, eq_self, mj_10, mj_01, mj_n10, mj_0n1, mj_1n1, mj_n11, mj_bi_some, mj_bv_some, mj_bj_some, mj_br_some, mj_r0, mj_r1, mj_q0, mj_q1, mj_b01, mj_q2, if_true, if_false, mj_it, mj_if, true_and, and_true, false_and, and_false, not_true_eq_false, not_false_eq_true, true_or, or_true, false_or, or_false, and_self, decide_true, q187_9, mj_10]
      · have z' : ¬ (7 ≤ nI x ∧ nI x ≤ 16) := by rw [e1]; exact z
        rw [if_neg z]
        simp only [mj_b, z', ↓reduceIte, Bool.false_eq_true, eq_self, mj_10, mj_01, mj_n10, mj_0n1, mj_1n1, mj_n11, mj_bi_some, mj_bv_some, mj_bj_some, mj_br_some, mj_r0, mj_r1, mj_q0, mj_q1, mj_b01, mj_q2, if_true, if_false, mj_it, mj_if, true_and, and_true, false_and, and_false, not_true_eq_false, not_false_eq_true, true_or, or_true, false_or, or_false, decide_false, q187_9]
    rcases hB.2.2 with ⟨a, b⟩ | ⟨a, b, e, _⟩ | ⟨a, b, e, e'⟩ | ⟨a, b, e, _⟩ | ⟨a, b⟩
    · rw [b, if_pos (by decide), q188_23, if_neg (fun z => by omega)]
    · rw [b, if_pos (by decide), q188_23, if_neg (fun z => by omega)]
    · have hk : kK 3 (TV i) = TV i := rfl
      have e'' : TV i < 17 := e'
      rw [b, if_neg (fun z => z rfl), e, hk, hcan _ (by omega), mj_bi_some, q188_16]
      by_cases z : 7 ≤ TV i
      · rw [if_pos (show 7 ≤ TV i ∧ TV i ≤ 16 by omega), if_neg (by decide), if_pos ⟨a, z⟩]
      · rw [if_neg (show ¬ (7 ≤ TV i ∧ TV i ≤ 16) by omega), if_pos rfl, q188_23, if_neg (fun k => z k.2)]
    · rw [b, if_pos (by decide), q188_23, if_neg (fun z => by omega)]
    · rw [if_neg (show ¬ (TY i = 2 ∧ 7 ≤ TV i) by omega)]
      rcases b with b | ⟨b, v, v1, v2, v3⟩
      · rw [b, if_pos (by decide), q188_23]
      · have hv17 : 17 ≤ v := by
          rcases Nat.lt_or_ge v 17 with z | z
          · exact absurd rfl (v3 v z)
          · exact z
        rw [b, if_neg (fun z => z rfl), v2, hcan v v1, mj_bi_some, q188_16, if_neg (show ¬ (7 ≤ v ∧ v ≤ 16) by omega), if_pos rfl, q188_23]
  have him' : TY i ≠ 0 → i < m := fun hz => by
    rcases Nat.lt_or_ge i m with z | z
    · exact z
    · exact absurd (by rw [show i = m by omega]; exact hG.2.2.2.2.2.1) hz
  refine ⟨fun ho hC => ?_, fun ho => ?_⟩
  · have hlt := him' (by rcases ho with z | z <;> omega)
    have hfin : ∀ (v1 : Int32) (s1 s0 : Int32), mj_den mj_P E (d' + 4) 188 43 [.ref 205, .int v1] [] (mj_hw w' c h hl) = mj_den mj_P E (d' + 4) 188 71 [.ref 205, .int v1] [.int s0, .int s1, .ref 205] (mj_hw w' c h hl) → ∃ hm : mj_HI, mj_den mj_P E (d' + 4) 188 43 [.ref 205, .int v1] [] (mj_hw w' c h hl) = some (some (.int 0), mj_hw w' c hm hl) ∧ txM t y hm ∧ txB 3 y t TY TV BG (i + 1) hm ∧ hm 205 28 = nI (C + 1) ∧ hm 221 (800 + C) = s1 ∧ hm 222 (800 + C) = s0 ∧ ∀ a k, ¬ (a = 205 ∧ ((15 ≤ k ∧ k ≤ 18) ∨ k = 28)) → ¬ ((a = 221 ∨ a = 222) ∧ k = 800 + C) → hm a k = h a k := fun v1 s1 s0 he => by
      have ee := s_emM (E := E) (d := d' + 3) (w' := w') (c := c) (hl := hl) hC h28 s1 s0
      obtain ⟨g, hg⟩ : ∃ g, g = mj_u (mj_u (mj_u h 221 (800 + C) s1) 222 (800 + C) s0) 205 28 (nI (C + 1)) := ⟨_, rfl⟩
      rw [← hg] at ee
      have gfr : ∀ a k, ¬ (a = 205 ∧ k = 28) → ¬ ((a = 221 ∨ a = 222) ∧ k = 800 + C) → g a k = h a k := fun a k z1 z2 => by rw [hg, mj_u_pt (by omega), mj_u_pt (by omega), mj_u_pt (by omega)]
      obtain ⟨hm, em, bm, fm⟩ := s_stepM (E := E) (d := d') (w' := w') (c := c) (hl := hl) (h := g) (j := i + 1) hG (txM_c hM (fun a k z => gfr a k (by omega) (by omega))) (by rw [gfr _ _ (by omega) (by omega)]; exact hB.1) (by omega)
      refine ⟨hm, ?_, txM_c hM (fun a k z => by rw [fm a k (by omega), gfr a k (by omega) (by omega)]), bm, by rw [fm _ _ (by omega), hg, mj_u_eq], by rw [fm _ _ (by omega), hg, mj_u_pt (by omega), mj_u_pt (by omega), mj_u_eq], by rw [fm _ _ (by omega), hg, mj_u_pt (by omega), mj_u_eq], fun a k z1 z2 => by rw [fm a k (by omega), gfr a k (by omega) (by omega)]⟩
      rw [he, q188_71, ee, mj_bv_some, q188_74, em, mj_bv_some, q188_78]
    rw [hask, q188_24]
    by_cases q1 : TY i = 1
    · have n2 : ¬ (TY i = 2 ∧ 7 ≤ TV i) := by omega
      rw [if_neg n2, if_neg (fun z => z rfl), if_pos (r2.mpr q1), if_pos q1, if_pos q1]
      exact hfin 0 0 (nI (TV i)) (by rw [q188_43, if_pos rfl, q188_52, q188_53, if_pos rfl, q188_67, r4 q1])
    · have q2 : TY i = 2 ∧ 7 ≤ TV i := ho.resolve_left q1
      have e7 : nI (TV i) - 7 = nI (TV i - 7) := by rw [show (7 : Int32) = nI 7 from rfl, mj_nIsub q2.2]
      have hk : kK 3 (TV i) = TV i := rfl
      have hval := (r5 q2.1).2
      rw [hk] at hval
      rw [if_pos q2, if_pos (by decide), if_neg q1, if_neg q1]
      exact hfin 1 1 (nI (TV i - 7)) (by rw [q188_43, if_neg (by decide), q188_53, if_neg (by decide), hval, e7])
  · obtain ⟨hm, em, Fm⟩ := s_erM_ex (E := E) (d := d' + 3) (w' := w') (c := c) (hl := hl) (f := 1) hB
    refine ⟨hm, ?_, Fm⟩
    have em' : mj_dc mj_P E (d' + 4) 183 [.ref 205, .int 1] (mj_hw w' c h hl) = some (some (.int (-1)), mj_hw w' c hm hl) := em
    rw [hask, if_neg (fun z => ho (Or.inr z)), q188_24, if_neg (fun z => z rfl), if_neg (fun z => ho (Or.inl (r2.mp z))), em', mj_bi_some, q188_42]
end MJZ10
