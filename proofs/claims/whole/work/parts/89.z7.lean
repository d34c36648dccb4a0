/-! the parsers: tokens 0 .. m with sorts TY, values TV, places BG -/
def txG (w : Nat) (y : Nat → Nat) (t m : Nat) (TY TV BG : Nat → Nat) : Prop := (3 ≤ w ∧ w ≤ 6) ∧ t ≤ 400 ∧ m ≤ t ∧ (∀ i, i ≤ m → BG i = lxB y t (lxP y t i) ∧ lxP y t i ≤ t ∧ lxI y t w (BG i) (TY i) (TV i) ∧ BG i ≤ t) ∧ (∀ i, i < m → TY i ≠ 0) ∧ TY m = 0 ∧ (∀ i, i ≤ m → TY i ≤ 4 ∧ (TY i < 4 → TV i ≤ 9999) ∧ (TY i = 2 → TV i < kN w) ∧ (TY i = 3 → TV i < 256))
def txC (m : Nat) (TY TV BG : Nat → Nat) (h : mj_HI) : Prop := h 159 9 = nI (m + 1) ∧ ∀ i, i ≤ m → h 174 i = nI (TY i) ∧ (TY i < 4 → h 175 i = nI (TV i)) ∧ h 176 i = nI (BG i)
def txA (TY TV BG : Nat → Nat) (i : Nat) (h : mj_HI) : Prop := h 159 10 = nI i ∧ h 159 11 = nI (TY i) ∧ (TY i < 4 → h 159 12 = nI (TV i)) ∧ h 159 13 = nI (BG i)
def txM (t : Nat) (y : Nat → Nat) (h : mj_HI) : Prop := h 205 14 = nI t ∧ (∀ i, i < t → y i < 256 ∧ h 214 i = nI (y i)) ∧ ∀ k, k < 132 → h 215 k = rV k
def txB (w : Nat) (y : Nat → Nat) (t : Nat) (TY TV BG : Nat → Nat) (i : Nat) (h : mj_HI) : Prop := h 205 15 = nI (lxP y t (i + 1)) ∧ h 205 16 = nI (BG i) ∧ rtk w (TY i) (TV i) (h 205 17) (h 205 18)
theorem txC_c {m : Nat} {TY TV BG : Nat → Nat} {h g : mj_HI} (q : txC m TY TV BG h) (e : ∀ a k, (a = 159 ∧ k = 9) ∨ a = 174 ∨ a = 175 ∨ a = 176 → g a k = h a k) : txC m TY TV BG g := ⟨by rw [e _ _ (by omega)]; exact q.1, fun i hi => by rw [e _ _ (by omega), e _ _ (by omega), e _ _ (by omega)]; exact q.2 i hi⟩
theorem txA_c {TY TV BG : Nat → Nat} {i : Nat} {h g : mj_HI} (q : txA TY TV BG i h) (e : ∀ k, 10 ≤ k → k ≤ 13 → g 159 k = h 159 k) : txA TY TV BG i g := ⟨by rw [e _ (by omega) (by omega)]; exact q.1, by rw [e _ (by omega) (by omega)]; exact q.2.1, fun z => by rw [e _ (by omega) (by omega)]; exact q.2.2.1 z, by rw [e _ (by omega) (by omega)]; exact q.2.2.2⟩
theorem txM_c {t : Nat} {y : Nat → Nat} {h g : mj_HI} (q : txM t y h) (e : ∀ a k, (a = 205 ∧ k = 14) ∨ a = 214 ∨ a = 215 → g a k = h a k) : txM t y g := ⟨by rw [e _ _ (by omega)]; exact q.1, fun i hi => by rw [e _ _ (by omega)]; exact q.2.1 i hi, fun k hk => by rw [e _ _ (by omega)]; exact q.2.2 k hk⟩
theorem txB_c {w : Nat} {y : Nat → Nat} {t : Nat} {TY TV BG : Nat → Nat} {i : Nat} {h g : mj_HI} (q : txB w y t TY TV BG i h) (e : ∀ k, 15 ≤ k → k ≤ 18 → g 205 k = h 205 k) : txB w y t TY TV BG i g := ⟨by rw [e _ (by omega) (by omega)]; exact q.1, by rw [e _ (by omega) (by omega)]; exact q.2.1, by rw [e _ (by omega) (by omega), e _ (by omega) (by omega)]; exact q.2.2⟩
section MJZ8
variable {E : mj_E} {d w w' c : Nat} {hl : Nat → Nat → Int64} {y TY TV BG : Nat → Nat} {t m i : Nat} {h : mj_HI}
theorem s_stepX {j : Nat} (hG : txG w y t m TY TV BG) (hC : txC m TY TV BG h) (h10 : h 159 10 + 1 = nI j) (hj : j ≤ m) : ∃ g : mj_HI, mj_dc mj_P E (d + 1) 55 [.ref 159] (mj_hw w' c h hl) = some (none, mj_hw w' c g hl) ∧ txA TY TV BG j g ∧ (TY j = 4 → True) ∧ ∀ a k, ¬ (a = 159 ∧ 10 ≤ k ∧ k ≤ 13) → g a k = h a k := by
  obtain ⟨_, t400, mt, _, _, _, hty⟩ := hG
  obtain ⟨c9, ct⟩ := hC
  obtain ⟨t1, t2, t3⟩ := ct j hj
  have n1 : ¬ nI j < (0 : Int32) := by rw [mj_ltz (by omega)]; exact fun z => z
  have n2 : ¬ nI (m + 1) ≤ nI j := by rw [mj_nIle (by omega) (by omega)]; omega
  have n3 : ¬ (400 : Int32) < nI j := by rw [show (400 : Int32) = nI 400 from rfl, mj_nIlt (by omega) (by omega)]; omega
  have n4 : (0 ≤ nI j ∧ (nI j).toNatClampNeg < 401) := ⟨by rw [mj_nI0 (by omega)]; trivial, by rw [mj_nIc (by omega)]; omega⟩
  have n5 : (nI j).toNatClampNeg = j := mj_nIc (by omega)
  refine ⟨mj_u (mj_u (mj_u (mj_u h 159 10 (nI j)) 159 11 (nI (TY j))) 159 12 (h 175 j)) 159 13 (nI (BG j)), ?_, ⟨by rw [mj_u_pt (by omega), mj_u_pt (by omega), mj_u_pt (by omega), mj_u_eq], by rw [mj_u_pt (by omega), mj_u_pt (by omega), mj_u_eq], fun z => by rw [mj_u_pt (by omega), mj_u_eq]; exact t2 z, mj_u_eq⟩, fun _ => trivial, fun a k ha => by rw [mj_u_pt (by omega), mj_u_pt (by omega), mj_u_pt (by omega), mj_u_pt (by omega)]⟩
  have k1 : (mj_u h 159 10 (nI j)) 159 10 = nI j := mj_u_eq
  have k2 : (mj_u h 159 10 (nI j)) 174 j = nI (TY j) := by rw [mj_u_pt (by omega)]; exact t1
  have k3 : (mj_u (mj_u h 159 10 (nI j)) 159 11 (nI (TY j))) 159 10 = nI j := by rw [mj_u_pt (by omega), mj_u_eq]
  have k4 : (mj_u h 159 10 (nI j)) 175 j = h 175 j := by rw [mj_u_pt (by omega)]
  have k5 : (mj_u (mj_u h 159 10 (nI j)) 159 11 (nI (TY j))) 176 j = nI (BG j) := by rw [mj_u_pt (by omega), mj_u_pt (by omega)]; exact t3
  rw [e55, q55_0, h10, if_neg n1, c9, if_neg n2, if_neg n3, q55_43, if_neg (by decide), k1, if_pos n4, n5, k2, q55_62, if_neg (by decide), k1, if_pos n4, n5, k4, q55_83, if_neg (by decide), k3, if_pos n4, n5, k5, q55_107]
theorem s_stepM {j : Nat} (hG : txG w y t m TY TV BG) (hM : txM t y h) (h15 : h 205 15 = nI (lxP y t j)) (hj : j ≤ m) : ∃ g : mj_HI, mj_dc mj_P E (d + 4) 182 [.ref 205] (mj_hw w' c h hl) = some (none, mj_hw w' c g hl) ∧ txB w y t TY TV BG j g ∧ ∀ a k, ¬ (a = 205 ∧ 15 ≤ k ∧ k ≤ 18) → g a k = h a k := by
  obtain ⟨hw, t400, mt, hb, _, _, hty⟩ := hG
  obtain ⟨b1, b2, b3, b4⟩ := hb j hj
  obtain ⟨g, e, g1, g2, g3, g4⟩ := s_reads (E := E) (d := d) (c := c) (hi := h) (hl := hl) (w := w) (wt' := w') (y := y) (t := t) (p := lxP y t j) (b := BG j) (ty := TY j) (tv := TV j) hw t400 b2 b1 hM.1 h15 hM.2.1 hM.2.2 b3
  exact ⟨g, e, ⟨by rw [g1, b1]; rfl, g2, g3⟩, g4⟩
theorem s_sgX {x : Nat} (hG : txG w y t m TY TV BG) (hi : i ≤ m) (hA : txA TY TV BG i h) (hx : x < 256) : mj_dc mj_P E (d + 1) 56 [.ref 159, .int (nI x)] (mj_hw w' c h hl) = some (some (.int (if TY i = 3 ∧ TV i = x then 1 else 0)), mj_hw w' c h hl) := by
  obtain ⟨h1, h2, h3, h4⟩ := hG.2.2.2.2.2.2 i hi
  rw [e56, q56_0, hA.2.1, show (3 : Int32) = nI 3 from rfl]
  by_cases q1 : TY i = 3
  · have q1' : ¬ ¬ nI (TY i) = nI 3 := fun z => z (by rw [q1])
    have := h4 q1
    rw [if_neg q1', hA.2.2.1 (by omega)]
    by_cases q2 : TV i = x
    · rw [if_neg (fun z => z (by rw [q2])), q56_21, if_pos (Or.inr rfl), if_pos ⟨q1, q2⟩]
    · rw [if_pos (fun z => q2 (nI_inj (by omega) (by omega) z)), q56_20, q56_21, if_pos (Or.inl rfl), if_neg (fun z => q2 z.2)]
  · rw [if_pos (fun z => q1 (nI_inj (by omega) (by omega) z)), q56_20, q56_21, if_pos (Or.inl rfl), if_neg (fun z => q1 z.1)]
theorem s_wdX {x : Nat} (hG : txG w y t m TY TV BG) (hi : i ≤ m) (hA : txA TY TV BG i h) (hx : x < 256) : mj_dc mj_P E (d + 1) 57 [.ref 159, .int (nI x)] (mj_hw w' c h hl) = some (some (.int (if TY i = 2 ∧ TV i = x then 1 else 0)), mj_hw w' c h hl) := by
  obtain ⟨h1, h2, h3, h4⟩ := hG.2.2.2.2.2.2 i hi
  rw [e57, q57_0, hA.2.1, show (2 : Int32) = nI 2 from rfl]
  by_cases q1 : TY i = 2
  · have q1' : ¬ ¬ nI (TY i) = nI 2 := fun z => z (by rw [q1])
    have := h2 (by omega)
    rw [if_neg q1', hA.2.2.1 (by omega)]
    by_cases q2 : TV i = x
    · rw [if_neg (fun z => z (by rw [q2])), q57_21, if_pos (Or.inr rfl), if_pos ⟨q1, q2⟩]
    · rw [if_pos (fun z => q2 (nI_inj (by omega) (by omega) z)), q57_20, q57_21, if_pos (Or.inl rfl), if_neg (fun z => q2 z.2)]
  · rw [if_pos (fun z => q1 (nI_inj (by omega) (by omega) z)), q57_20, q57_21, if_pos (Or.inl rfl), if_neg (fun z => q1 z.1)]
/-- what the reference's token is, by the sort -/
theorem rtk_tok {ty tv : Nat} {tok val : Int32} (h : rtk w ty tv tok val) : (tok = 0 ↔ ty = 0) ∧ (tok = 3 ↔ ty = 1) ∧ (tok = 4 ↔ ty = 3) ∧ (ty = 1 → val = nI tv) ∧ (ty = 2 → tok = 2 ∧ val = nI (kK w tv)) ∧ (ty = 3 → val = nI tv) := by
  rcases h with ⟨a, b⟩ | ⟨a, b, e, _⟩ | ⟨a, b, e, _⟩ | ⟨a, b, e, _⟩ | ⟨a, b⟩
  · subst a; rw [b]
    exact ⟨⟨fun _ => rfl, fun _ => rfl⟩, ⟨fun z => absurd z (by decide), fun z => absurd z (by omega)⟩, ⟨fun z => absurd z (by decide), fun z => absurd z (by omega)⟩, fun z => absurd z (by omega), fun z => absurd z (by omega), fun z => absurd z (by omega)⟩
  · subst a; rw [b]
    exact ⟨⟨fun z => absurd z (by decide), fun z => absurd z (by omega)⟩, ⟨fun _ => rfl, fun _ => rfl⟩, ⟨fun z => absurd z (by decide), fun z => absurd z (by omega)⟩, fun _ => e, fun z => absurd z (by omega), fun z => absurd z (by omega)⟩
  · subst a; rw [b]
    exact ⟨⟨fun z => absurd z (by decide), fun z => absurd z (by omega)⟩, ⟨fun z => absurd z (by decide), fun z => absurd z (by omega)⟩, ⟨fun z => absurd z (by decide), fun z => absurd z (by omega)⟩, fun z => absurd z (by omega), fun _ => ⟨rfl, e⟩, fun z => absurd z (by omega)⟩
  · subst a; rw [b]
    exact ⟨⟨fun z => absurd z (by decide), fun z => absurd z (by omega)⟩, ⟨fun z => absurd z (by decide), fun z => absurd z (by omega)⟩, ⟨fun _ => rfl, fun _ => rfl⟩, fun z => absurd z (by omega), fun z => absurd z (by omega), fun _ => e⟩
  · subst a
    have hb : tok = 1 ∨ tok = 2 := by
      rcases b with b | b
      · exact Or.inl b
      · exact Or.inr b.1
    rcases hb with hb | hb
    all_goals
      rw [hb]
      exact ⟨⟨fun z => absurd z (by decide), fun z => absurd z (by omega)⟩, ⟨fun z => absurd z (by decide), fun z => absurd z (by omega)⟩, ⟨fun z => absurd z (by decide), fun z => absurd z (by omega)⟩, fun z => absurd z (by omega), fun z => absurd z (by omega), fun z => absurd z (by omega)⟩
theorem s_sgM {x : Nat} (hG : txG w y t m TY TV BG) (hi : i ≤ m) (hB : txB w y t TY TV BG i h) (hx : x < 256) : mj_dc mj_P E (d + 1) 185 [.ref 205, .int (nI x)] (mj_hw w' c h hl) = some (some (.int (if TY i = 3 ∧ TV i = x then 1 else 0)), mj_hw w' c h hl) := by
  obtain ⟨h1, h2, h3, h4⟩ := hG.2.2.2.2.2.2 i hi
  obtain ⟨_, _, r3, _, _, r6⟩ := rtk_tok hB.2.2
  rw [e185, q185_0]
  by_cases q1 : TY i = 3
  · have := h4 q1
    rw [if_neg (fun z => z (r3.mpr q1)), r6 q1]
    by_cases q2 : TV i = x
    · rw [if_neg (fun z => z (by rw [q2])), q185_21, if_pos (Or.inr rfl), if_pos ⟨q1, q2⟩]
    · rw [if_pos (fun z => q2 (nI_inj (by omega) (by omega) z)), q185_20, q185_21, if_pos (Or.inl rfl), if_neg (fun z => q2 z.2)]
  · rw [if_pos (fun z => q1 (r3.mp z)), q185_20, q185_21, if_pos (Or.inl rfl), if_neg (fun z => q1 z.1)]
theorem s_wdM {x : Nat} (hG : txG w y t m TY TV BG) (hi : i ≤ m) (hB : txB w y t TY TV BG i h) (hx : x < kN w) : mj_dc mj_P E (d + 1) 184 [.ref 205, .int (nI (kK w x))] (mj_hw w' c h hl) = some (some (.int (if TY i = 2 ∧ TV i = x then 1 else 0)), mj_hw w' c h hl) := by
  obtain ⟨h1, h2, h3, h4⟩ := hG.2.2.2.2.2.2 i hi
  have hk := (kr hG.1 x hx).1
  have e2 : (2 : Int32) = nI 2 := rfl
  rw [e184, q184_0]
  rcases hB.2.2 with ⟨a, b⟩ | ⟨a, b, e, _⟩ | ⟨a, b, e, e'⟩ | ⟨a, b, e, _⟩ | ⟨a, b⟩
  · rw [b, if_pos (by decide), q184_20, q184_21, if_pos (Or.inl rfl), if_neg (fun z => by omega)]
  · rw [b, if_pos (by decide), q184_20, q184_21, if_pos (Or.inl rfl), if_neg (fun z => by omega)]
  · rw [b, if_neg (fun z => z rfl), e]
    have hk2 := (kr hG.1 (TV i) e').1
    by_cases q2 : TV i = x
    · rw [if_neg (fun z => z (by rw [q2])), q184_21, if_pos (Or.inr rfl), if_pos ⟨a, q2⟩]
    · rw [if_pos (fun z => q2 (ki hG.1 _ e' _ hx (nI_inj (by omega) (by omega) z))), q184_20, q184_21, if_pos (Or.inl rfl), if_neg (fun z => q2 z.2)]
  · rw [b, if_pos (by decide), q184_20, q184_21, if_pos (Or.inl rfl), if_neg (fun z => by omega)]
  · rw [if_neg (show ¬ (TY i = 2 ∧ TV i = x) from fun z => by omega)]
    rcases b with b | ⟨b, v, v1, v2, v3⟩
    · rw [b, if_pos (by decide), q184_20, q184_21, if_pos (Or.inl rfl)]
    · rw [b, if_neg (fun z => z rfl), v2, if_pos (fun z => v3 x hx (nI_inj (by omega) (by omega) z)), q184_20, q184_21, if_pos (Or.inl rfl)]
theorem s_wrX {x : Nat} (hA : txA TY TV BG i h) : mj_dc mj_P E (d + 1) 58 [.ref 159, .int (nI x)] (mj_hw w' c h hl) = some (some (.int 0), mj_hw w' c (mj_u (mj_u h 159 1 (nI x)) 159 2 (nI (BG i))) hl) := by
  rw [e58, q58_0, hA.2.2.2, if_pos (Or.inl rfl)]
theorem s_erM {x : Nat} (hB : txB w y t TY TV BG i h) : mj_dc mj_P E (d + 1) 183 [.ref 205, .int (nI x)] (mj_hw w' c h hl) = some (some (.int (-1)), mj_hw w' c (mj_u (mj_u h 205 32 (nI x)) 205 33 (nI (BG i))) hl) := by
  rw [e183, q183_0, hB.2.1]
theorem s_emX {L : Nat} (hL : L < 400) (h1 : h 160 1 = nI L) (v1 v2 : Int32) : mj_dc mj_P E (d + 1) 17 [.ref 160, .int v1, .int v2] (mj_hw w' c h hl) = some (none, mj_hw w' c (mj_u (mj_u (mj_u h 165 L v1) 166 L v2) 160 1 (nI (L + 1))) hl) := by
  have n1 : ¬ (400 : Int32) ≤ nI L := by rw [show (400 : Int32) = nI 400 from rfl, mj_nIle (by omega) (by omega)]; omega
  have n2 : (0 ≤ nI L ∧ (nI L).toNatClampNeg < 400) := ⟨by rw [mj_nI0 (by omega)]; trivial, by rw [mj_nIc (by omega)]; omega⟩
  rw [e17, q17_0, h1, if_neg n1, if_pos n2, if_pos n2, mj_nIc (by omega), mj_nIs, q17_40]
theorem s_emM {C : Nat} (hC : C < 400) (h1 : h 205 28 = nI C) (v1 v2 : Int32) : mj_dc mj_P E (d + 1) 186 [.ref 205, .int v1, .int v2] (mj_hw w' c h hl) = some (none, mj_hw w' c (mj_u (mj_u (mj_u h 221 (800 + C) v1) 222 (800 + C) v2) 205 28 (nI (C + 1))) hl) := by
  have e8 : (800 : Int32) + nI C = nI (800 + C) := by rw [show (800 : Int32) = nI 800 from rfl, mj_nIadd]
  have n2 : (0 ≤ nI (800 + C) ∧ (nI (800 + C)).toNatClampNeg < 1200) := ⟨by rw [mj_nI0 (by omega)]; trivial, by rw [mj_nIc (by omega)]; omega⟩
  rw [e186, q186_0, h1, e8, if_pos n2, if_pos n2, mj_nIc (by omega), mj_nIs]
end MJZ8
/-- the codes of both, up to the class's L-th -/
def cdr (g hm : mj_HI) (L : Nat) : Prop := hm 205 28 = nI (iv_ph (g 165) L) ∧ ∀ k, k < L → iv_cor (g 165 k) (g 166 k) (fun p => hm 221 (800 + p)) (fun p => hm 222 (800 + p)) (iv_ph (g 165) k)
theorem iv_ph_s2 (f : Nat → Int32) (L : Nat) : iv_ph f (L + 1) = iv_ph f L + 1 + (if f L = 14 then 1 else 0) := by
  unfold iv_ph
  rw [iv_cnt_s]
  by_cases h : f L = 14
  · rw [if_pos (decide_eq_true h), if_pos h]; omega
  · rw [if_neg (fun z => h (of_decide_eq_true z)), if_neg h]; omega
theorem cdr_s {g g' hm hm' : mj_HI} {L : Nat} (q : cdr g hm L) (c1 : ∀ k, k < L → g' 165 k = g 165 k ∧ g' 166 k = g 166 k) (c2 : ∀ p, p < iv_ph (g 165) L → hm' 221 (800 + p) = hm 221 (800 + p) ∧ hm' 222 (800 + p) = hm 222 (800 + p)) (c3 : hm' 205 28 = nI (iv_ph (g' 165) (L + 1))) (c4 : iv_cor (g' 165 L) (g' 166 L) (fun p => hm' 221 (800 + p)) (fun p => hm' 222 (800 + p)) (iv_ph (g 165) L)) : cdr g' hm' (L + 1) := by
  have hph : ∀ k, k ≤ L → iv_ph (g' 165) k = iv_ph (g 165) k := fun k hk => iv_ph_congr k (fun i hi => (c1 i (by omega)).1)
  refine ⟨c3, fun k hk => ?_⟩
  rw [hph k (by omega)]
  by_cases hkL : k = L
  · rw [hkL]; exact c4
  · have hk2 : k < L := by omega
    rw [(c1 k hk2).1, (c1 k hk2).2]
    have l1 := iv_ph_lt (f := g 165) hk2
    refine iv_cor_congr (c2 _ l1).1 (c2 _ l1).2 (fun e => ?_) (q.2 k hk2)
    have l2 := iv_ph_14 (f := g 165) hk2 e
    exact (c2 _ l2).1
theorem cdr_c {g g' hm hm' : mj_HI} {L : Nat} (q : cdr g hm L) (c1 : ∀ k, k < L → g' 165 k = g 165 k ∧ g' 166 k = g 166 k) (c2 : ∀ a k, a = 221 ∨ a = 222 → hm' a k = hm a k) (c3 : hm' 205 28 = hm 205 28) : cdr g' hm' L := by
  have hph : ∀ k, k ≤ L → iv_ph (g' 165) k = iv_ph (g 165) k := fun k hk => iv_ph_congr k (fun i hi => (c1 i (by omega)).1)
  refine ⟨by rw [c3, hph L (Nat.le_refl _)]; exact q.1, fun k hk => ?_⟩
  rw [hph k (by omega), (c1 k hk).1, (c1 k hk).2]
  exact iv_cor_congr (c2 _ _ (Or.inl rfl)) (c2 _ _ (Or.inr rfl)) (fun _ => c2 _ _ (Or.inl rfl)) (q.2 k hk)
theorem iv_tys_add (f : Nat → Int32) (i : Nat) (ts : List Bool) (a : Nat) : ∀ b, iv_tys f i (a + b) ts = (iv_tys f i a ts).bind (fun us => iv_tys f (i + a) b us) := by
  intro b
  induction b with
  | zero =>
    show iv_tys f i a ts = _
    cases iv_tys f i a ts <;> rfl
  | succ b ih =>
    show (iv_tys f i (a + b) ts).bind (fun us => iv_ty (f (i + (a + b))) us) = _
    rw [ih]
    cases iv_tys f i a ts with
    | none => rfl
    | some us => show (iv_tys f (i + a) b us).bind (fun vs => iv_ty (f (i + (a + b))) vs) = (iv_tys f (i + a) b us).bind (fun vs => iv_ty (f (i + a + b)) vs); rw [show i + (a + b) = i + a + b by omega]
theorem iv_tys_one (f : Nat → Int32) (i : Nat) (ts : List Bool) : iv_tys f i 1 ts = iv_ty (f i) ts := rfl
