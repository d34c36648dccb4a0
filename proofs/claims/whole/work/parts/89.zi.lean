/-! the loop over a text's lines, for all four kinds -/
def v6 (u : Value) : Prop := u = .float 0 ∨ ∃ x, u = .int x
def gT (h g : mj_HI) : Prop := ∀ a k, ¬ (a = 205 ∧ ((15 ≤ k ∧ k ≤ 18) ∨ k = 28 ∨ k = 29 ∨ k = 31 ∨ k = 32 ∨ k = 33)) → ¬ ((a = 221 ∨ a = 222) ∧ 800 ≤ k) → ¬ (217 ≤ a ∧ a ≤ 220 ∧ 32 ≤ k) → a ≠ 223 → ¬ (a = 224 ∧ 32 ≤ k) → ¬ (a = 225 ∧ 10 ≤ k) → ¬ (a = 226 ∧ 48 ≤ k) → g a k = h a k
theorem fT_t {a b c : mj_HI} (p : fT a b) (q : fT b c) : fT a c := fun x k h1 h2 h3 => (q x k h1 h2 h3).trans (p x k h1 h2 h3)
theorem gT_t {a b c : mj_HI} (p : gT a b) (q : gT b c) : gT a c := fun x k h1 h2 h3 h4 h5 h6 h7 => (q x k h1 h2 h3 h4 h5 h6 h7).trans (p x k h1 h2 h3 h4 h5 h6 h7)
theorem fT_r (a : mj_HI) : fT a a := fun _ _ _ _ _ => rfl
theorem gT_r (a : mj_HI) : gT a a := fun _ _ _ _ _ _ _ _ _ => rfl
theorem gL_T {a b : mj_HI} (p : gL a b) : gT a b := fun x k h1 h2 h3 h4 _ _ _ => p x k h1 h2 h3 h4
theorem fX_T {a b : mj_HI} (p : fX a b) : fT a b := fL_T (fX_L p)
theorem fS_T {a b : mj_HI} (p : fS a b) : gT a b := gL_T (fS_L p)
def FT (BG : Nat → Nat) (h g : mj_HI) (f j : Nat) : Prop := fV h g ∧ g 159 1 = nI f ∧ g 159 2 = nI (BG j)
def GT (BG : Nat → Nat) (hm hm' : mj_HI) (f j : Nat) : Prop := gT hm hm' ∧ hm' 205 32 = nI f ∧ hm' 205 33 = nI (BG j)
section MJZ19
variable {E : mj_E} {d d' w w' c : Nat} {hl : Nat → Nat → Int64} {y TY TV BG : Nat → Nat} {t m : Nat}
theorem FT_t {a b g : mj_HI} {f j : Nat} (p : fT a b) (q : FT BG b g f j) : FT BG a g f j := ⟨fV_t (fT_V p) q.1, q.2⟩
theorem GT_t {a b g : mj_HI} {f j : Nat} (p : gT a b) (q : GT BG b g f j) : GT BG a g f j := ⟨gT_t p q.1, q.2⟩
theorem FX_FT {h g : mj_HI} {L f j : Nat} (q : FX BG h g L f j) : FT BG h g f j := ⟨fW_V q.1, q.2.2⟩
theorem FM_GT {h g : mj_HI} {f j : Nat} (q : FM BG h g f j) : GT BG h g f j := ⟨fS_T q.1, q.2⟩
/-- a sign is asked for -/
theorem p_xpX {i L x : Nat} {h : mj_HI} (hG : txG w y t m TY TV BG) (hS : XS m TY TV BG i L h) (hx : x < 256) :
    (TY i = 3 ∧ TV i = x ∧ i < m ∧ ∃ g, mj_dc mj_P E (d + 2) 59 [.ref 159, .int (nI x)] (mj_hw w' c h hl) = some (some (.int 1), mj_hw w' c g hl) ∧ XS m TY TV BG (i + 1) L g ∧ fX h g ∧ ∀ a k, a ≠ 159 → g a k = h a k) ∨ (¬ (TY i = 3 ∧ TV i = x) ∧ ∃ g, mj_dc mj_P E (d + 2) 59 [.ref 159, .int (nI x)] (mj_hw w' c h hl) = some (some (.int 0), mj_hw w' c g hl) ∧ FX BG h g L 1 i) := by
  obtain ⟨_, t400, mt, _, hnz, hmz, htv⟩ := id hG
  have hjm := hS.2.2.1
  have X := s_sgX (E := E) (d := d) (w' := w') (c := c) (hl := hl) (x := x) hG hjm hS.2.1 hx
  by_cases hcl : TY i = 3 ∧ TV i = x
  · rw [if_pos hcl] at X
    have hjlt : i < m := by
      rcases Nat.lt_or_ge i m with z | z
      · exact z
      · have hz : TY i = 0 := by rw [show i = m by omega]; exact hmz
        omega
    obtain ⟨g1, eg, gS, gf, gfr⟩ := p_stX (E := E) (d := d) (w' := w') (c := c) (hl := hl) hG hS hjlt
    refine Or.inl ⟨hcl.1, hcl.2, hjlt, g1, ?_, gS, gf, gfr⟩
    rw [e59, q59_0, X, mj_bi_some, q59_5, if_pos (by decide), q59_14, eg, mj_bv_some, q59_18, if_pos (Or.inr rfl)]
  · rw [if_neg hcl] at X
    obtain ⟨gw, ew, Fw⟩ := p_wrX (E := E) (d := d) (w' := w') (c := c) (hl := hl) (f := 1) hS
    have ew' : mj_dc mj_P E (d + 1) 58 [.ref 159, .int 1] (mj_hw w' c h hl) = some (some (.int 0), mj_hw w' c gw hl) := ew
    refine Or.inr ⟨hcl, gw, ?_, Fw⟩
    rw [e59, q59_0, X, mj_bi_some, q59_5, if_neg (fun z => z rfl), ew', mj_bi_some, q59_13, if_pos (Or.inl rfl)]
theorem t48_105 {v1 v2 v3 v4 v5 : Int32} {u : Value} (hu : v6 u) {h : mj_HI} : mj_den mj_P E d 48 105 [.ref 159, .int v1, .int v2, .int v3, .int v4, .int v5, u] [] (mj_hw w c h hl) = if (16 : Int32) < v5 then mj_den mj_P E d 48 220 [.ref 159, .int v1, .int v2, .int v3, .int v4, .int v5, u] [] (mj_hw w c h hl) else if (h 159 11) = 0 then mj_den mj_P E d 48 220 [.ref 159, .int v1, .int v2, .int v3, .int v4, .int v5, u] [] (mj_hw w c h hl) else if ¬ (h 159 11) = (2 : Int32) then mj_den mj_P E d 48 136 [.ref 159, .int v1, .int v2, .int v3, .int v4, .int v5, u] [] (mj_hw w c h hl) else if (h 159 12) ≤ v4 then mj_den mj_P E d 48 142 [.ref 159, .int v1, .int v2, .int v3, .int v4, .int v5, u] [] (mj_hw w c h hl) else mj_den mj_P E d 48 136 [.ref 159, .int v1, .int v2, .int v3, .int v4, .int v5, u] [] (mj_hw w c h hl) := by
  rcases hu with rfl | ⟨x, rfl⟩
  · exact q48_105 ..
  · exact q48_105_1 ..
theorem t48_220 {v1 v2 v3 v4 v5 : Int32} {u : Value} (hu : v6 u) {h : mj_HI} : mj_den mj_P E d 48 220 [.ref 159, .int v1, .int v2, .int v3, .int v4, .int v5, u] [] (mj_hw w c h hl) = some (some (.int 1), mj_hw w c h hl) := by
  rcases hu with rfl | ⟨x, rfl⟩
  · rw [q48_220_1, if_pos (Or.inr rfl)]
  · rw [q48_220, if_pos (Or.inr rfl)]
theorem t48_136 {v1 v2 v3 v4 v5 : Int32} {u : Value} (hu : v6 u) {h g : mj_HI} (e : mj_dc mj_P E d 58 [.ref 159, .int 1] (mj_hw w c h hl) = some (some (.int 0), mj_hw w c g hl)) : mj_den mj_P E d 48 136 [.ref 159, .int v1, .int v2, .int v3, .int v4, .int v5, u] [] (mj_hw w c h hl) = some (some (.int 0), mj_hw w c g hl) := by
  rcases hu with rfl | ⟨x, rfl⟩
  · rw [q48_136, e, mj_bi_some, q48_141, if_pos (Or.inl rfl)]
  · rw [q48_136_1, e, mj_bi_some, q48_141_1, if_pos (Or.inl rfl)]
theorem t48_142 {v1 v2 v3 v4 v5 : Int32} {u : Value} (hu : v6 u) {h : mj_HI} (n : ¬ v5 = 16) : mj_den mj_P E d 48 142 [.ref 159, .int v1, .int v2, .int v3, .int v4, .int v5, u] [] (mj_hw w c h hl) = mj_den mj_P E d 48 155 [.ref 159, .int v1, .int v2, .int v3, .int v4, .int v5, u] [] (mj_hw w c h hl) := by
  rcases hu with rfl | ⟨x, rfl⟩
  · rw [q48_142, if_pos n]
  · rw [q48_142_1, if_pos n]
theorem t48_14216 {v1 v2 v3 v4 v5 : Int32} {u : Value} (hu : v6 u) {h g : mj_HI} (n : v5 = 16) (e : mj_dc mj_P E d 58 [.ref 159, .int 3] (mj_hw w c h hl) = some (some (.int 0), mj_hw w c g hl)) : mj_den mj_P E d 48 142 [.ref 159, .int v1, .int v2, .int v3, .int v4, .int v5, u] [] (mj_hw w c h hl) = some (some (.int 0), mj_hw w c g hl) := by
  rcases hu with rfl | ⟨x, rfl⟩
  · rw [q48_142, if_neg (fun z => z n), e, mj_bi_some, q48_154, if_pos (Or.inl rfl)]
  · rw [q48_142_1, if_neg (fun z => z n), e, mj_bi_some, q48_154_1, if_pos (Or.inl rfl)]
theorem t48_196 {v1 v2 v3 v4 v5 s : Int32} {u : Value} (hu : v6 u) {h : mj_HI} : mj_den mj_P E d 48 196 [.ref 159, .int v1, .int v2, .int v3, .int v4, .int v5, u] [.int s] (mj_hw w c h hl) = if s = 0 then some (some (.int 0), mj_hw w c h hl) else mj_bi (mj_dc mj_P E d 59 [.ref 159, .int 59] (mj_hw w c h hl)) (fun x1 h1 => mj_den mj_P E d 48 209 [.ref 159, .int v1, .int v2, .int v3, .int v4, .int v5, .int s] [.int x1] h1) := by
  rcases hu with rfl | ⟨x, rfl⟩
  · rw [q48_196, q48_212, if_pos (Or.inl rfl)]
  · rw [q48_196_1, q48_212, if_pos (Or.inl rfl)]
/-- the loop -/
theorem tx_loop {bg : Nat} {a : Int32} {v2 v3 : Int32} (hG : txG w y t m TY TV BG) (hbg : bg < 100) (lineX : Nat → mj_H → mj_R) (Rr : Nat → Value → mj_H → mj_R) (okv : Value → Prop) (C : Nat → mj_HI → Prop) (Q : Nat → Nat → mj_HI → mj_HI → Prop)
    (hline : ∀ k u h s g, v6 u → lineX k (mj_hw w' c h hl) = some (some (.int s), mj_hw w' c g hl) → mj_den mj_P E (d + 31) 48 155 [.ref 159, .int a, .int v2, .int v3, .int (nI bg), .int (nI k), u] [] (mj_hw w' c h hl) = mj_den mj_P E (d + 31) 48 196 [.ref 159, .int a, .int v2, .int v3, .int (nI bg), .int (nI k), u] [.int s] (mj_hw w' c g hl))
    (hC : ∀ k (g g' : mj_HI), (∀ a k, a ≠ 159 → g' a k = g a k) → fX g g' → C k g → C k g')
    (hQ : ∀ k L (g g' : mj_HI) hm, (∀ a k, a ≠ 159 → g' a k = g a k) → Q k L g hm → Q k L g' hm)
    (hL : ∀ i L k h, XS m TY TV BG i L h → fT h h → iv_ph (h 165) L ≤ i → k < 16 → TY i = 2 → TV i ≤ bg → C k h →
      (∃ f j g, lineX k (mj_hw w' c h hl) = some (some (.int 0), mj_hw w' c g hl) ∧ FT BG h g f j ∧ ∀ hm u, MS w y t TY TV BG i L h hm → Q k L h hm → okv u → ∃ hm', Rr k u (mj_hw w' c hm hl) = some (some (.int (-1)), mj_hw w' c hm' hl) ∧ GT BG hm hm' f j) ∨
      (∃ j L' g, lineX k (mj_hw w' c h hl) = some (some (.int 1), mj_hw w' c g hl) ∧ fT h g ∧ C (k + 1) g ∧ XS m TY TV BG j L' g ∧ iv_ph (g 165) L' ≤ j ∧ ∀ hm u, MS w y t TY TV BG i L h hm → Q k L h hm → okv u →
        ((TY j = 3 ∧ TV j = 59 → ∃ hm' u', okv u' ∧ Rr k u (mj_hw w' c hm hl) = Rr (k + 1) u' (mj_hw w' c hm' hl) ∧ MS w y t TY TV BG (j + 1) L' g hm' ∧ Q (k + 1) L' g hm' ∧ gT hm hm') ∧
         (¬ (TY j = 3 ∧ TV j = 59) → ∃ hm', Rr k u (mj_hw w' c hm hl) = some (some (.int (-1)), mj_hw w' c hm' hl) ∧ GT BG hm hm' 1 j))))
    (hN : ∀ i L k h hm u, i ≤ m → MS w y t TY TV BG i L h hm → okv u → ¬ (TY i = 2 ∧ TV i ≤ bg) → (TY i = 0 → Rr k u (mj_hw w' c hm hl) = some (some (.int (nI k)), mj_hw w' c hm hl)) ∧ (TY i ≠ 0 → ∃ hm', Rr k u (mj_hw w' c hm hl) = some (some (.int (-1)), mj_hw w' c hm' hl) ∧ GT BG hm hm' 1 i))
    (h16 : ∀ i L h hm u, i ≤ m → MS w y t TY TV BG i L h hm → okv u → TY i = 2 → TV i ≤ bg → ∃ hm', Rr 16 u (mj_hw w' c hm hl) = some (some (.int (-1)), mj_hw w' c hm' hl) ∧ GT BG hm hm' 3 i) :
    ∀ n k i L h u6, k + n = 16 → v6 u6 → XS m TY TV BG i L h → iv_ph (h 165) L ≤ i → C k h →
      (∃ f j g, mj_den mj_P E (d + 31) 48 105 [.ref 159, .int a, .int v2, .int v3, .int (nI bg), .int (nI k), u6] [] (mj_hw w' c h hl) = some (some (.int 0), mj_hw w' c g hl) ∧ FT BG h g f j ∧ ∀ hm u, MS w y t TY TV BG i L h hm → Q k L h hm → okv u → ∃ hm', Rr k u (mj_hw w' c hm hl) = some (some (.int (-1)), mj_hw w' c hm' hl) ∧ GT BG hm hm' f j) ∨
      (∃ k' j L' g, mj_den mj_P E (d + 31) 48 105 [.ref 159, .int a, .int v2, .int v3, .int (nI bg), .int (nI k), u6] [] (mj_hw w' c h hl) = some (some (.int 1), mj_hw w' c g hl) ∧ fT h g ∧ k' ≤ 16 ∧ C k' g ∧ XS m TY TV BG j L' g ∧ iv_ph (g 165) L' ≤ j ∧ ∀ hm u, MS w y t TY TV BG i L h hm → Q k L h hm → okv u → ∃ hm', Rr k u (mj_hw w' c hm hl) = some (some (.int (nI k')), mj_hw w' c hm' hl) ∧ MS w y t TY TV BG j L' g hm' ∧ Q k' L' g hm' ∧ gT hm hm') := by
  obtain ⟨_, t400, mt, _, hnz, hmz, htv⟩ := id hG
  intro n
  induction n with
  | zero =>
    intro k i L h u6 hkn hu hS hcap hCk
    have n16 : ¬ (16 : Int32) < nI k := by rw [show (16 : Int32) = nI 16 from rfl, mj_nIlt (by omega) (by omega)]; omega
    have e11 := hS.2.1.2.1
    have hle := htv i hS.2.2.1
    obtain rfl : k = 16 := by omega
    by_cases h0 : TY i = 0
    · refine Or.inr ⟨16, i, L, h, ?_, fT_r h, by omega, hCk, hS, hcap, fun hm u q hq ho => ⟨hm, (hN i L 16 h hm u hS.2.2.1 q ho (by omega)).1 h0, q, hq, gT_r hm⟩⟩
      rw [t48_105 hu, if_neg n16, e11, h0, if_pos (show nI 0 = (0 : Int32) from rfl), t48_220 hu]
    · have n0 : ¬ nI (TY i) = (0 : Int32) := by rw [show (0 : Int32) = nI 0 from rfl, mj_nIeq (by omega) (by omega)]; exact h0
      by_cases hb : TY i = 2 ∧ TV i ≤ bg
      · obtain ⟨gw, ew, Fw⟩ := p_wrX (E := E) (d := d + 30) (w' := w') (c := c) (hl := hl) (f := 3) hS
        refine Or.inl ⟨3, i, gw, ?_, FX_FT Fw, fun hm u q hq ho => h16 i L h hm u hS.2.2.1 q ho hb.1 hb.2⟩
        have l4 : h 159 12 ≤ nI bg := by rw [hS.2.1.2.2.1 (by omega), mj_nIle (by have := hle.2.1 (by omega); omega) (by omega)]; exact hb.2
        rw [t48_105 hu, if_neg n16, e11, if_neg n0, if_neg (fun z => z (by rw [hb.1]; rfl)), if_pos l4]
        exact t48_14216 hu rfl ew
      · obtain ⟨gw, ew, Fw⟩ := p_wrX (E := E) (d := d + 30) (w' := w') (c := c) (hl := hl) (f := 1) hS
        refine Or.inl ⟨1, i, gw, ?_, FX_FT Fw, fun hm u q hq ho => (hN i L 16 h hm u hS.2.2.1 q ho hb).2 h0⟩
        rw [t48_105 hu, if_neg n16, e11, if_neg n0]
        by_cases h2 : TY i = 2
        · have l4 : ¬ h 159 12 ≤ nI bg := by rw [hS.2.1.2.2.1 (by omega), mj_nIle (by have := hle.2.1 (by omega); omega) (by omega)]; omega
          rw [if_neg (fun z => z (by rw [h2]; rfl)), if_neg l4]
          exact t48_136 hu ew
        · rw [if_pos (by rw [show (2 : Int32) = nI 2 from rfl, mj_nIeq (by omega) (by omega)]; exact h2)]
          exact t48_136 hu ew
  | succ n ih =>
    intro k i L h u6 hkn hu hS hcap hCk
    have n16 : ¬ (16 : Int32) < nI k := by rw [show (16 : Int32) = nI 16 from rfl, mj_nIlt (by omega) (by omega)]; omega
    have e11 := hS.2.1.2.1
    have hle := htv i hS.2.2.1
    by_cases h0 : TY i = 0
    · refine Or.inr ⟨k, i, L, h, ?_, fT_r h, by omega, hCk, hS, hcap, fun hm u q hq ho => ⟨hm, (hN i L k h hm u hS.2.2.1 q ho (by omega)).1 h0, q, hq, gT_r hm⟩⟩
      rw [t48_105 hu, if_neg n16, e11, h0, if_pos (show nI 0 = (0 : Int32) from rfl), t48_220 hu]
    · have n0 : ¬ nI (TY i) = (0 : Int32) := by rw [show (0 : Int32) = nI 0 from rfl, mj_nIeq (by omega) (by omega)]; exact h0
      by_cases hb : TY i = 2 ∧ TV i ≤ bg
      · have l4 : h 159 12 ≤ nI bg := by rw [hS.2.1.2.2.1 (by omega), mj_nIle (by have := hle.2.1 (by omega); omega) (by omega)]; exact hb.2
        have nk : ¬ nI k = (16 : Int32) := by rw [show (16 : Int32) = nI 16 from rfl, mj_nIeq (by omega) (by omega)]; omega
        have hgo : ∀ s g, lineX k (mj_hw w' c h hl) = some (some (.int s), mj_hw w' c g hl) → mj_den mj_P E (d + 31) 48 105 [.ref 159, .int a, .int v2, .int v3, .int (nI bg), .int (nI k), u6] [] (mj_hw w' c h hl) = mj_den mj_P E (d + 31) 48 196 [.ref 159, .int a, .int v2, .int v3, .int (nI bg), .int (nI k), u6] [.int s] (mj_hw w' c g hl) := fun s g eg => by
          rw [t48_105 hu, if_neg n16, e11, if_neg n0, if_neg (fun z => z (by rw [hb.1]; rfl)), if_pos l4, t48_142 hu nk, hline k u6 h s g hu eg]
        rcases hL i L k h hS (fT_r h) hcap (by omega) hb.1 hb.2 hCk with ⟨f, j, g, o1, o2, o3⟩ | ⟨j, L', g, o1, o2, o3, o4, o5, o6⟩
        · refine Or.inl ⟨f, j, g, ?_, o2, o3⟩
          rw [hgo _ _ o1, t48_196 hu, if_pos rfl]
        · rcases p_xpX (E := E) (d := d + 29) (w' := w') (c := c) (hl := hl) (x := 59) hG o4 (by omega) with ⟨x1, x2, x3, g1, x4, x5, x6, x7⟩ | ⟨x1, g1, x2, x3⟩
          · have x4' : mj_dc mj_P E (d + 31) 59 [.ref 159, .int 59] (mj_hw w' c g hl) = some (some (.int 1), mj_hw w' c g1 hl) := x4
            have hgo2 : mj_den mj_P E (d + 31) 48 105 [.ref 159, .int a, .int v2, .int v3, .int (nI bg), .int (nI k), u6] [] (mj_hw w' c h hl) = mj_den mj_P E (d + 31) 48 105 [.ref 159, .int a, .int v2, .int v3, .int (nI bg), .int (nI (k + 1)), .int 1] [] (mj_hw w' c g1 hl) := by
              rw [hgo _ _ o1, t48_196 hu, if_neg (by decide), x4', mj_bi_some, q48_209, if_pos (by decide), q48_214, mj_nIs]
            have ph : iv_ph (g1 165) L' = iv_ph (g 165) L' := iv_ph_congr _ (fun i _ => x7 _ _ (by omega))
            have hst : ∀ hm u, MS w y t TY TV BG i L h hm → Q k L h hm → okv u → ∃ hm' u', okv u' ∧ Rr k u (mj_hw w' c hm hl) = Rr (k + 1) u' (mj_hw w' c hm' hl) ∧ MS w y t TY TV BG (j + 1) L' g1 hm' ∧ Q (k + 1) L' g1 hm' ∧ gT hm hm' := fun hm u q hq ho => by
              obtain ⟨hm', u', r0, r1, r2, r3, r4⟩ := (o6 hm u q hq ho).1 ⟨x1, x2⟩
              exact ⟨hm', u', r0, r1, ⟨r2.1, r2.2.1, cdr_c r2.2.2 (fun k _ => ⟨x7 _ _ (by omega), x7 _ _ (by omega)⟩) (fun _ _ _ => rfl) rfl⟩, hQ _ _ _ _ _ x7 r3, r4⟩
            rcases ih (k + 1) (j + 1) L' g1 (.int 1) (by omega) (Or.inr ⟨1, rfl⟩) x5 (by omega) (hC _ _ _ x7 x6 o3) with ⟨f, j', g', u1, u2, u3⟩ | ⟨k', j', L2, g', u1, u2, u3, u4, u5, u7, u8⟩
            · refine Or.inl ⟨f, j', g', by rw [hgo2, u1], FT_t (fT_t o2 (fX_T x6)) u2, fun hm u q hq ho => ?_⟩
              obtain ⟨hm1, u', r0, r1, r2, r3, r4⟩ := hst hm u q hq ho
              obtain ⟨hm2, r5, r6⟩ := u3 hm1 u' r2 r3 r0
              exact ⟨hm2, by rw [r1, r5], GT_t r4 r6⟩
            · refine Or.inr ⟨k', j', L2, g', by rw [hgo2, u1], fT_t (fT_t o2 (fX_T x6)) u2, u3, u4, u5, u7, fun hm u q hq ho => ?_⟩
              obtain ⟨hm1, u', r0, r1, r2, r3, r4⟩ := hst hm u q hq ho
              obtain ⟨hm2, r5, r6, r7, r8⟩ := u8 hm1 u' r2 r3 r0
              exact ⟨hm2, by rw [r1, r5], r6, r7, gT_t r4 r8⟩
          · have x2' : mj_dc mj_P E (d + 31) 59 [.ref 159, .int 59] (mj_hw w' c g hl) = some (some (.int 0), mj_hw w' c g1 hl) := x2
            refine Or.inl ⟨1, j, g1, ?_, FT_t o2 (FX_FT x3), fun hm u q hq ho => (o6 hm u q hq ho).2 x1⟩
            rw [hgo _ _ o1, t48_196 hu, if_neg (by decide), x2', mj_bi_some, q48_209, if_neg (fun z => z rfl), q48_212, if_pos (Or.inl rfl)]
      · obtain ⟨gw, ew, Fw⟩ := p_wrX (E := E) (d := d + 30) (w' := w') (c := c) (hl := hl) (f := 1) hS
        refine Or.inl ⟨1, i, gw, ?_, FX_FT Fw, fun hm u q hq ho => (hN i L k h hm u hS.2.2.1 q ho hb).2 h0⟩
        rw [t48_105 hu, if_neg n16, e11, if_neg n0]
        by_cases h2 : TY i = 2
        · have l4 : ¬ h 159 12 ≤ nI bg := by rw [hS.2.1.2.2.1 (by omega), mj_nIle (by have := hle.2.1 (by omega); omega) (by omega)]; omega
          rw [if_neg (fun z => z (by rw [h2]; rfl)), if_neg l4]
          exact t48_136 hu ew
        · rw [if_pos (by rw [show (2 : Int32) = nI 2 from rfl, mj_nIeq (by omega) (by omega)]; exact h2)]
          exact t48_136 hu ew
end MJZ19
