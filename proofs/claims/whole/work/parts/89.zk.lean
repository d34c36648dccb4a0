/-! numbers in a text -/
def okN (TY TV : Nat → Nat) (i lo : Nat) (hi : Int32) : Prop := TY i = 1 ∧ lo ≤ TV i ∧ nI (TV i) ≤ hi
def fN (TY : Nat → Nat) (i : Nat) : Nat := if TY i = 1 then 2 else 1
section MJZ21
variable {E : mj_E} {d d' w w' c : Nat} {hl : Nat → Nat → Int64} {y TY TV BG : Nat → Nat} {t m : Nat}
theorem MS_g' {i L : Nat} {g g' hm : mj_HI} (q : MS w y t TY TV BG i L g hm) (b : bX g g' L) : MS w y t TY TV BG i L g' hm := ⟨q.1, q.2.1, cdr_c q.2.2 b (fun _ _ _ => rfl) rfl⟩
theorem tx_lt (hG : txG w y t m TY TV BG) {i : Nat} (hi : i ≤ m) (h : TY i ≠ 0) : i < m := by
  rcases Nat.lt_or_ge i m with z | z
  · exact z
  · exact absurd (by rw [show i = m by omega]; exact hG.2.2.2.2.2.1) h
theorem p_nbX {i L lo : Nat} {hi : Int32} {h : mj_HI} (hG : txG w y t m TY TV BG) (hS : XS m TY TV BG i L h) (hlo : lo < 10000) (hok : okN TY TV i lo hi) : ∃ g, mj_dc mj_P E (d + 2) 60 [.ref 159, .int (nI lo), .int hi] (mj_hw w' c h hl) = some (some (.int 1), mj_hw w' c g hl) ∧ XS m TY TV BG (i + 1) L g ∧ fX h g ∧ (∀ a k, a ≠ 159 → g a k = h a k) := by
  obtain ⟨k1, k2, k3⟩ := hok
  have hjlt := tx_lt hG hS.2.2.1 (by omega)
  have tv9 := (hG.2.2.2.2.2.2 i hS.2.2.1).2.1 (by omega)
  obtain ⟨g1, eg, gS, gf, gfr⟩ := p_stX (E := E) (d := d) (w' := w') (c := c) (hl := hl) hG hS hjlt
  refine ⟨g1, ?_, gS, gf, gfr⟩
  rw [e60, q60_0, hS.2.1.2.1, if_pos (by rw [k1]; rfl), q60_14, hS.2.1.2.2.1 (by omega), if_neg (by rw [mj_nIlt (by omega) (by omega)]; omega), if_pos k3, q60_36, eg, mj_bv_some, q60_40, if_pos (Or.inr rfl)]
theorem p_nbXf {i L lo : Nat} {hi : Int32} {h : mj_HI} (hG : txG w y t m TY TV BG) (hS : XS m TY TV BG i L h) (hlo : lo < 10000) (hok : ¬ okN TY TV i lo hi) : ∃ g, mj_dc mj_P E (d + 2) 60 [.ref 159, .int (nI lo), .int hi] (mj_hw w' c h hl) = some (some (.int 0), mj_hw w' c g hl) ∧ FX BG h g L (fN TY i) i := by
  have hle := hG.2.2.2.2.2.2 i hS.2.2.1
  by_cases h1 : TY i = 1
  · have tv9 := hle.2.1 (by omega)
    obtain ⟨gw, ew, Fw⟩ := p_wrX (E := E) (d := d) (w' := w') (c := c) (hl := hl) (f := 2) hS
    have ew' : mj_dc mj_P E (d + 1) 58 [.ref 159, .int 2] (mj_hw w' c h hl) = some (some (.int 0), mj_hw w' c gw hl) := ew
    refine ⟨gw, ?_, by rw [fN, if_pos h1]; exact Fw⟩
    rw [e60, q60_0, hS.2.1.2.1, if_pos (by rw [h1]; rfl), q60_14, hS.2.1.2.2.1 (by omega)]
    by_cases h2 : lo ≤ TV i
    · have h3 : ¬ nI (TV i) ≤ hi := fun z => hok ⟨h1, h2, z⟩
      rw [if_neg (by rw [mj_nIlt (by omega) (by omega)]; omega), if_neg h3, q60_30, ew', mj_bi_some, q60_35, if_pos (Or.inl rfl)]
    · rw [if_pos (by rw [mj_nIlt (by omega) (by omega)]; omega), q60_30, ew', mj_bi_some, q60_35, if_pos (Or.inl rfl)]
  · obtain ⟨gw, ew, Fw⟩ := p_wrX (E := E) (d := d) (w' := w') (c := c) (hl := hl) (f := 1) hS
    have ew' : mj_dc mj_P E (d + 1) 58 [.ref 159, .int 1] (mj_hw w' c h hl) = some (some (.int 0), mj_hw w' c gw hl) := ew
    refine ⟨gw, ?_, by rw [fN, if_neg h1]; exact Fw⟩
    rw [e60, q60_0, hS.2.1.2.1, if_neg (by rw [show (1 : Int32) = nI 1 from rfl, mj_nIeq (by omega) (by omega)]; exact h1), ew', mj_bi_some, q60_13, if_pos (Or.inl rfl)]
theorem p_3 {i L : Nat} {g hm : mj_HI} (q : MS w y t TY TV BG i L g hm) : (hm 205 17 = 3 ↔ TY i = 1) ∧ (TY i = 1 → hm 205 18 = nI (TV i)) := by
  rcases q.2.1.2.2 with z | z | z | z | z
  · exact ⟨⟨fun h => absurd (z.2.symm.trans h) (by decide), fun h => by omega⟩, fun h => by omega⟩
  · exact ⟨⟨fun _ => z.1, fun _ => z.2.1⟩, fun _ => z.2.2.1⟩
  · exact ⟨⟨fun h => absurd (z.2.1.symm.trans h) (by decide), fun h => by omega⟩, fun h => by omega⟩
  · exact ⟨⟨fun h => absurd (z.2.1.symm.trans h) (by decide), fun h => by omega⟩, fun h => by omega⟩
  · rcases z.2 with y | y
    · exact ⟨⟨fun h => absurd (y.symm.trans h) (by decide), fun h => by omega⟩, fun h => by omega⟩
    · exact ⟨⟨fun h => absurd (y.1.symm.trans h) (by decide), fun h => by omega⟩, fun h => by omega⟩
theorem s_152h {lo n : Nat} {hi : Int32} {h : mj_HI} (hn : n < 100000) (ha : lo < 100000) : mj_dc mj_P E (d + 1) 152 [.ref 205, .int (nI n), .int (nI lo), .int hi] (mj_hw w' c h hl) = some (some (.int (if lo ≤ n ∧ nI n ≤ hi then 1 else 0)), mj_hw w' c h hl) := by
  rw [e152, q152_0]
  by_cases h1 : n < lo
  · rw [if_neg (show ¬ (lo ≤ n ∧ nI n ≤ hi) by omega), if_pos (by rw [mj_nIlt (by omega) (by omega)]; exact h1), q152_14, q152_15, if_pos (Or.inl rfl)]
  · rw [if_neg (by rw [mj_nIlt (by omega) (by omega)]; exact h1)]
    by_cases h2 : nI n ≤ hi
    · rw [if_pos (show lo ≤ n ∧ nI n ≤ hi from ⟨by omega, h2⟩), if_neg (Int32.not_lt.mpr h2), q152_15, if_pos (Or.inr rfl)]
    · rw [if_neg (show ¬ (lo ≤ n ∧ nI n ≤ hi) from fun z => h2 z.2), if_pos (Int32.not_le.mp h2), q152_14, q152_15, if_pos (Or.inl rfl)]
theorem p_nbM {i L lo : Nat} {hi : Int32} {g hm : mj_HI} (hG : txG w y t m TY TV BG) (q : MS w y t TY TV BG i L g hm) (him : i ≤ m) (hlo : lo < 10000) (hok : okN TY TV i lo hi) : ∃ hm', mj_dc mj_P E (d + 5) 198 [.ref 205, .int (nI lo), .int hi] (mj_hw w' c hm hl) = some (some (.int (nI (TV i))), mj_hw w' c hm' hl) ∧ MS w y t TY TV BG (i + 1) L g hm' ∧ fS hm hm' ∧ (∀ a k, ¬ (a = 205 ∧ 15 ≤ k ∧ k ≤ 18) → hm' a k = hm a k) := by
  obtain ⟨k1, k2, k3⟩ := hok
  have hjlt := tx_lt hG him (by omega)
  have tv9 := (hG.2.2.2.2.2.2 i him).2.1 (by omega)
  obtain ⟨hm1, e1, q1, f1, fr1⟩ := p_stM (E := E) (d := d) (w' := w') (c := c) (hl := hl) hG q hjlt
  have k := s_152h (E := E) (d := d + 3) (w' := w') (c := c) (hl := hl) (h := hm) (lo := lo) (n := TV i) (hi := hi) (by omega) (by omega)
  rw [if_pos ⟨k2, k3⟩] at k
  refine ⟨hm1, ?_, q1, f1, fr1⟩
  rw [e198, q198_0, if_pos ((p_3 q).1.mpr k1), q198_14, (p_3 q).2 k1, k, mj_bi_some, q198_24, if_pos (by decide), q198_33, e1, mj_bv_some, (p_3 q).2 k1, q198_42]
theorem p_nbMf {i L lo : Nat} {hi : Int32} {g hm : mj_HI} (hG : txG w y t m TY TV BG) (q : MS w y t TY TV BG i L g hm) (him : i ≤ m) (hlo : lo < 10000) (hok : ¬ okN TY TV i lo hi) : ∃ hm', mj_dc mj_P E (d + 5) 198 [.ref 205, .int (nI lo), .int hi] (mj_hw w' c hm hl) = some (some (.int (-1)), mj_hw w' c hm' hl) ∧ FM BG hm hm' (fN TY i) i := by
  have hle := hG.2.2.2.2.2.2 i him
  by_cases h1 : TY i = 1
  · have tv9 := hle.2.1 (by omega)
    have k := s_152h (E := E) (d := d + 3) (w' := w') (c := c) (hl := hl) (h := hm) (lo := lo) (n := TV i) (hi := hi) (by omega) (by omega)
    rw [if_neg (fun z => hok ⟨h1, z⟩)] at k
    obtain ⟨hm2, x1, x2⟩ := p_erM (E := E) (d := d + 3) (w' := w') (c := c) (hl := hl) (f := 2) q
    have x1' : mj_dc mj_P E (d + 4) 183 [.ref 205, .int 2] (mj_hw w' c hm hl) = some (some (.int (-1)), mj_hw w' c hm2 hl) := x1
    refine ⟨hm2, ?_, by rw [fN, if_pos h1]; exact x2⟩
    rw [e198, q198_0, if_pos ((p_3 q).1.mpr h1), q198_14, (p_3 q).2 h1, k, mj_bi_some, q198_24, if_neg (fun z => z rfl), x1', mj_bi_some, q198_32]
  · obtain ⟨hm2, x1, x2⟩ := p_erM (E := E) (d := d + 3) (w' := w') (c := c) (hl := hl) (f := 1) q
    have x1' : mj_dc mj_P E (d + 4) 183 [.ref 205, .int 1] (mj_hw w' c hm hl) = some (some (.int (-1)), mj_hw w' c hm2 hl) := x1
    refine ⟨hm2, ?_, by rw [fN, if_neg h1]; exact x2⟩
    rw [e198, q198_0, if_neg (fun z => h1 ((p_3 q).1.mp z)), x1', mj_bi_some, q198_13]
/-- a word, then a number -/
theorem p_200 {i L x : Nat} {lo hi : Int32} {g hm : mj_HI} (hG : txG w y t m TY TV BG) (q : MS w y t TY TV BG i L g hm) (him : i ≤ m) (hx : x < kN w) (h2 : TY i = 2) (hv : TV i = x) : ∃ hm1, MS w y t TY TV BG (i + 1) L g hm1 ∧ fS hm hm1 ∧ (∀ a k, ¬ (a = 205 ∧ 15 ≤ k ∧ k ≤ 18) → hm1 a k = hm a k) ∧ ∀ v g', mj_dc mj_P E (d + 5) 198 [.ref 205, .int lo, .int hi] (mj_hw w' c hm1 hl) = some (some (.int v), mj_hw w' c g' hl) → mj_dc mj_P E (d + 6) 200 [.ref 205, .int (nI (kK w x)), .int lo, .int hi] (mj_hw w' c hm hl) = some (some (.int v), mj_hw w' c g' hl) := by
  have k := s_wdM (E := E) (d := d + 4) (w' := w') (c := c) (hl := hl) (x := x) hG him q.2.1 hx
  rw [if_pos ⟨h2, hv⟩] at k
  obtain ⟨hm1, e1, q1, f1, fr1⟩ := p_stM (E := E) (d := d + 1) (w' := w') (c := c) (hl := hl) hG q (tx_lt hG him (by omega))
  refine ⟨hm1, q1, f1, fr1, fun v g' ev => ?_⟩
  rw [e200, q200_0, k, mj_bi_some, q200_5, if_pos (by decide), q200_14, e1, mj_bv_some, q200_18, ev, mj_bi_some, q200_24]
/-- a sign is asked for -/
theorem p_xpM {i L x : Nat} {g hm : mj_HI} (hG : txG w y t m TY TV BG) (q : MS w y t TY TV BG i L g hm) (him : i ≤ m) (hx : x < 256) : ((TY i = 3 ∧ TV i = x) → ∃ hm', mj_dc mj_P E (d + 5) 199 [.ref 205, .int (nI x)] (mj_hw w' c hm hl) = some (some (.int 0), mj_hw w' c hm' hl) ∧ MS w y t TY TV BG (i + 1) L g hm' ∧ fS hm hm' ∧ ∀ a k, ¬ (a = 205 ∧ 15 ≤ k ∧ k ≤ 18) → hm' a k = hm a k) ∧ (¬ (TY i = 3 ∧ TV i = x) → ∃ hm', mj_dc mj_P E (d + 5) 199 [.ref 205, .int (nI x)] (mj_hw w' c hm hl) = some (some (.int (-1)), mj_hw w' c hm' hl) ∧ FM BG hm hm' 1 i) := by
  have k := s_sgM (E := E) (d := d + 3) (w' := w') (c := c) (hl := hl) (x := x) hG him q.2.1 hx
  refine ⟨fun hc => ?_, fun hc => ?_⟩
  · rw [if_pos hc] at k
    obtain ⟨hm1, e1, q1, f1, fr1⟩ := p_stM (E := E) (d := d) (w' := w') (c := c) (hl := hl) hG q (tx_lt hG him (by omega))
    exact ⟨hm1, by rw [e199, q199_0, k, mj_bi_some, q199_5, if_pos (by decide), q199_14, e1, mj_bv_some, q199_18], q1, f1, fr1⟩
  · rw [if_neg hc] at k
    obtain ⟨hm2, x1, x2⟩ := p_erM (E := E) (d := d + 3) (w' := w') (c := c) (hl := hl) (f := 1) q
    have x1' : mj_dc mj_P E (d + 4) 183 [.ref 205, .int 1] (mj_hw w' c hm hl) = some (some (.int (-1)), mj_hw w' c hm2 hl) := x1
    exact ⟨hm2, by rw [e199, q199_0, k, mj_bi_some, q199_5, if_neg (fun z => z rfl), x1', mj_bi_some, q199_13], x2⟩
/-- the class puts a line down -/
theorem p_add {k : Nat} {h : mj_HI} (hk : k < 16) (h0 : h 169 0 = nI k) (v1 v2 v3 : Int32) : mj_dc mj_P E (d + 1) 24 [.ref 169, .int v1, .int v2, .int v3] (mj_hw w' c h hl) = some (none, mj_hw w' c (mj_u (mj_u (mj_u (mj_u h 170 k v1) 171 k v2) 172 k v3) 169 0 (nI (k + 1))) hl) := by
  have n16 : (0 ≤ nI k ∧ (nI k).toNatClampNeg < 16) := ⟨by rw [mj_nI0 (by omega)]; trivial, by rw [mj_nIc (by omega)]; exact hk⟩
  rw [e24, q24_0, h0, if_neg (by rw [show (0 : Int32) = nI 0 from rfl, mj_nIlt (by omega) (by omega)]; omega), if_pos (by rw [show (16 : Int32) = nI 16 from rfl, mj_nIlt (by omega) (by omega)]; exact hk), q24_19, if_pos n16, if_pos n16, if_pos n16, mj_nIc (by omega), h0, mj_nIs]
end MJZ21
