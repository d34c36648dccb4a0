def au_KC (n L len s p : Nat) (cb cw cc y f t : Nat → Nat) (h : mj_HI) : Prop := wl_C h L len cb cw cc ∧ (s ≤ 16 ∧ h 22 0 = nI s ∧ ∀ i, i < s → 1 ≤ y i ∧ y i ≤ 60 ∧ h 25 i = nI (y i)) ∧ (p ≤ 16 ∧ h 26 0 = nI p ∧ (∀ i, i < p → h 28 i = nI (f i) ∧ h 29 i = nI (t i) ∧ f i < 10 ∧ t i < 10) ∧ ∀ i, i < p → f i < n)
def au_KM (r n l L len s p : Nat) (cb cw cc y f t : Nat → Nat) (ops args kd wds : Nat → Int32) (m : mj_HI) : Prop := m 205 5 = (if r = 2 then 0 else 1) ∧ m 205 6 = nI n ∧ m 205 7 = nI l ∧ wl_M m ops args kd L len cb cw cc ∧ (m 205 36 = nI s ∧ (∀ i, i < s → 1 ≤ y i ∧ y i ≤ 60 ∧ m 224 (2 * i + 1) = nI (y i)) ∧ ∀ k, wv_wd y wds s k = wv_wd y (fun k => m 224 (2 * k)) s k) ∧ ∀ k, k < 10 → m 225 k = nI (wv_pn f t (2 ^ k) p)
theorem au_KC_c {n L len s p : Nat} {cb cw cc y f t : Nat → Nat} {h h' : mj_HI} (q : au_KC n L len s p cb cw cc y f t h) (e : ∀ a k, 13 ≤ a → a ≤ 19 ∨ (22 ≤ a ∧ a ≤ 29) → h' a k = h a k) : au_KC n L len s p cb cw cc y f t h' := by
  obtain ⟨q1, ⟨a1, a2, a3⟩, b1, b2, b3, b4⟩ := q
  refine ⟨wl_C_congr q1 (fun a k z1 z2 => e a k z1 (Or.inl z2)), ⟨a1, by rw [e _ _ (by omega) (by omega)]; exact a2, fun i hi => by rw [e _ _ (by omega) (by omega)]; exact a3 i hi⟩, b1, by rw [e _ _ (by omega) (by omega)]; exact b2, fun i hi => by rw [e _ _ (by omega) (by omega), e _ _ (by omega) (by omega)]; exact b3 i hi, b4⟩
theorem au_KM_c {r n l L len s p : Nat} {cb cw cc y f t : Nat → Nat} {ops args kd wds : Nat → Int32} {m m' : mj_HI} (q : au_KM r n l L len s p cb cw cc y f t ops args kd wds m) (e : au_M m m') : au_KM r n l L len s p cb cw cc y f t ops args kd wds m' := by
  obtain ⟨q1, q2, q3, q4, ⟨q5, q6, q7⟩, q8⟩ := q
  have e' : ∀ a k, a ≠ 206 → a ≠ 213 → a ≠ 227 → a ≠ 228 → ¬ (a = 205 ∧ (k = 44 ∨ k = 45 ∨ k = 46)) → m' a k = m a k := fun a k h1 h2 => e a k h1 (Or.inl h2)
  have e224 : (fun k => m' 224 (2 * k)) = (fun k => m 224 (2 * k)) := funext (fun k => e' _ _ (by omega) (by omega) (by omega) (by omega) (by omega))
  refine ⟨?_, ?_, ?_, wl_M_congr q4 (fun a k z1 z2 => e' _ _ (by omega) (by omega) (by omega) (by omega) (by omega)), ⟨?_, fun i hi => ?_, fun k => ?_⟩, fun k hk => ?_⟩
  · rw [e' _ _ (by omega) (by omega) (by omega) (by omega) (by omega)]; exact q1
  · rw [e' _ _ (by omega) (by omega) (by omega) (by omega) (by omega)]; exact q2
  · rw [e' _ _ (by omega) (by omega) (by omega) (by omega) (by omega)]; exact q3
  · rw [e' _ _ (by omega) (by omega) (by omega) (by omega) (by omega)]; exact q5
  · rw [e' _ _ (by omega) (by omega) (by omega) (by omega) (by omega)]; exact q6 i hi
  · rw [e224]; exact q7 k
  · rw [e' _ _ (by omega) (by omega) (by omega) (by omega) (by omega)]; exact q8 k hk
/-- who remains -/
def au_S (f : Nat → Int32) (n S W D : Nat) : Nat := if W = 0 then S else if mj_df (mj_df S W) D = 0 then 2 ^ (mj_most f S n).toNatClampNeg else mj_df (mj_df S W) D
theorem au_S_ok {f : Nat → Int32} {n S W D : Nat} (n10 : n ≤ 10) (hS : S < 2 ^ n) (h0 : S ≠ 0) : au_S f n S W D < 2 ^ n ∧ au_S f n S W D ≠ 0 := by
  unfold au_S
  split
  · exact ⟨hS, h0⟩
  · split
    · obtain ⟨k, h1, h2, h3⟩ := mj_most_some f (show n ≤ 12 by omega) hS h0
      rw [h3, mj_nIc (by omega)]
      exact ⟨Nat.pow_lt_pow_right (by omega) h1, by have := Nat.two_pow_pos k; omega⟩
    · rename_i h
      exact ⟨mj_df_le _ _ (mj_df_le _ _ hS), h⟩
theorem au_S_sub {f : Nat → Int32} {n S W D : Nat} (n10 : n ≤ 10) (hS : S < 2 ^ n) (h0 : S ≠ 0) : ∀ j, (au_S f n S W D).testBit j = true → S.testBit j = true := by
  intro j hj
  unfold au_S at hj
  split at hj
  · exact hj
  · split at hj
    · obtain ⟨k, h1, h2, h3⟩ := mj_most_some f (show n ≤ 12 by omega) hS h0
      rw [h3, mj_nIc (by omega), Nat.testBit_two_pow] at hj
      rw [← of_decide_eq_true hj]; exact h2
    · rw [mj_df_bit, mj_df_bit] at hj
      cases hs : S.testBit j
      · rw [hs] at hj; exact absurd hj (by simp)
      · rfl
theorem mj_df_or (S W D : Nat) : mj_df S (W ||| D) = mj_df (mj_df S W) D := by
  refine Nat.eq_of_testBit_eq (fun j => ?_)
  rw [mj_df_bit, mj_df_bit, mj_df_bit, Nat.testBit_or]
  cases S.testBit j <;> cases W.testBit j <;> cases D.testBit j <;> rfl
theorem mj_df_z (S : Nat) : mj_df S 0 = S := by
  refine Nat.eq_of_testBit_eq (fun j => ?_)
  rw [mj_df_bit, Nat.zero_testBit]
  cases S.testBit j <;> rfl
theorem wv_pn_z (f t : Nat → Nat) : ∀ p, wv_pn f t 0 p = 0
  | 0 => rfl
  | p + 1 => by unfold wv_pn; rw [Nat.zero_testBit, if_neg (by decide)]; exact wv_pn_z f t p
theorem au_out {S W P : Nat} (hWS : ∀ j, W.testBit j = true → S.testBit j = true) : (W ||| mj_df (P &&& S) W = S) ↔ mj_df (mj_df S W) (mj_df (P &&& S) W) = 0 := by
  rw [← mj_df_or, mj_df0]
  constructor
  · intro h j hj; rw [h]; exact hj
  · intro h
    refine Nat.eq_of_testBit_eq (fun j => ?_)
    have h1 := h j
    have h2 := hWS j
    rw [Nat.testBit_or, mj_df_bit, Nat.testBit_and] at h1 ⊢
    cases hs : S.testBit j <;> cases hw : W.testBit j <;> cases hp : P.testBit j <;> rw [hs, hw, hp] at h1 <;> rw [hs, hw] at h2 <;> first | rfl | exact absurd (h1 rfl) (by decide) | exact absurd (h2 rfl) (by decide)
section MJ83
variable {E : mj_E} {d d' w c : Nat} {hl : Nat → Nat → Int64}
theorem s_calmR {r n s : Nat} {hi : mj_HI} (hr2 : r = 2 ∨ r = 177) (hn : n ≤ 10) (hs : s < 4096) (hd : hi r 0 = nI n) : mj_dc mj_P E (d + 2) 79 [.ref r, .int (nI s)] (mj_hw w c hi hl) = some (some (.int (mj_most (hi (r + 1)) s n)), mj_hw w c hi hl) := by
  rcases hr2 with rfl | rfl
  · exact s_calmX hn hs hd
  · exact s_calmI hn hs hd
theorem s_remain {r n l L len s p S W k S0 T : Nat} {cb cw cc y f t : Nat → Nat} {wd : Int32} {hx : mj_HI} (hr : mj_Rm w c r) (hr2 : r = 2 ∨ r = 177) (n10 : n ≤ 10) (hS : S < 2 ^ n) (hS0 : S ≠ 0) (hW : W < 2 ^ n) (hWS : ∀ j, W.testBit j = true → S.testBit j = true) (h0 : hx r 0 = nI n) (h1 : hx r 1 = nI l) (hb : ∃ b, b ≤ 150 ∧ hx r 6 = nI b) (qC : au_KC n L len s p cb cw cc y f t hx) : ∃ (hx' : mj_HI) (S' : Nat), mj_dc mj_P E (d + 6) 3 [.ref 188, .ref 1, .ref r, .int (nI S), .int (nI W), .int wd, .int (if r = 2 then 0 else 1)] (mj_hw w c hx hl) = some (some (.int (nI S')), mj_hw w c hx' hl) ∧ au_X r hx hx' ∧ (∀ k, hx' 188 k = hx 188 k ∧ hx' (r + 10) k = hx (r + 10) k) ∧ S' < 2 ^ n ∧ S' ≠ 0 ∧ (∀ j, S'.testBit j = true → S.testBit j = true) ∧ hx' r 0 = nI n ∧ hx' r 1 = nI l ∧ (∃ b, b ≤ 150 ∧ hx' r 6 = nI b) ∧ ∀ (ops args kd wds : Nat → Int32) (hm : mj_HI) (u6 : Value), au_KM r n l L len s p cb cw cc y f t ops args kd wds hm → au r n l hx hm → ∃ (hm' : mj_HI) (u6' : Int32), mj_den mj_P E (d' + 7) 225 49 [.ref 205, .int (nI k), .int (nI S0), .int (nI S), .int (nI T), .int (nI W), u6] [.int wd, .int (nI W), .int (nI S), .ref 205, .int (nI W)] (mj_hw w c hm hl) = mj_den mj_P E (d' + 7) 225 88 [.ref 205, .int (nI k), .int (nI S0), .int (nI S), .int (nI T), .int (nI W), .int u6'] [.int (nI S')] (mj_hw w c hm' hl) ∧ au_M hm hm' ∧ au r n l hx' hm' ∧ hm' 205 46 = hm 205 46 ||| nI W := by
  obtain ⟨qL, qS, p16, p26, pf, pn⟩ := id qC
  have h2n : (2 : Nat) ^ n ≤ 2 ^ 10 := Nat.pow_le_pow_right (by omega) n10
  have hP : wv_pn f t W p < 1024 := wv_pn_lt (fun i hi => (pf i hi).2.2.2)
  have hD : mj_df (wv_pn f t W p &&& S) W < 2 ^ 10 := mj_df_le _ _ (Nat.lt_of_le_of_lt Nat.and_le_left hP)
  have hcong : ∀ hm, au r n l hx hm → mj_most (fun k => hm 206 (5 + k)) S n = mj_most (hx (r + 1)) S n := fun hm q => mj_most_congr n (by omega) (fun k hk => ((q.1.2.2.1 k (by omega)).1).symm)
  -- the reference, behind the notes
  have tail : ∀ (hm g : mj_HI) (u6 : Value), hm 205 6 = nI n → au_M hm g → au r n l hx hm → (∀ k, k < 10 → g 206 (5 + k) = hm 206 (5 + k)) → g 205 46 = hm 205 46 → mj_dc mj_P E (d' + 7) 224 [.ref 205, .int (nI S), .int (nI W), .int wd] (mj_hw w c hm hl) = some (some (.int (nI (mj_df (wv_pn f t W p &&& S) W))), mj_hw w c g hl) → ∃ u6' : Int32, mj_den mj_P E (d' + 7) 225 49 [.ref 205, .int (nI k), .int (nI S0), .int (nI S), .int (nI T), .int (nI W), u6] [.int wd, .int (nI W), .int (nI S), .ref 205, .int (nI W)] (mj_hw w c hm hl) = mj_den mj_P E (d' + 7) 225 88 [.ref 205, .int (nI k), .int (nI S0), .int (nI S), .int (nI T), .int (nI W), .int u6'] [.int (nI (au_S (hx (r + 1)) n S W (mj_df (wv_pn f t W p &&& S) W)))] (mj_hw w c (mj_u g 205 46 (hm 205 46 ||| nI W)) hl) := by
    intro hm g u6 m6 gM q g5 g46 e
    refine ⟨nI (W ||| mj_df (wv_pn f t W p &&& S) W), ?_⟩
    have hor : W ||| mj_df (wv_pn f t W p &&& S) W < 2 ^ 10 := Nat.or_lt_two_pow (by omega) hD
    rw [g225_49, e, mj_bi_some, g225_52, bx_or, g46]
    unfold au_S
    by_cases hW0 : W = 0
    · subst hW0
      have hz : mj_df (wv_pn f t 0 p &&& S) 0 = 0 := by rw [wv_pn_z, Nat.zero_and]; rfl
      rw [hz, show (0 ||| 0 : Nat) = 0 from rfl, if_pos (by rw [mj_nIeq (by omega) (by omega)]; intro z; exact hS0 z.symm), g225_82, bx_df, if_pos rfl, mj_df_z]
    · rw [if_neg hW0]
      by_cases ho : W ||| mj_df (wv_pn f t W p &&& S) W = S
      · obtain ⟨K, k1, k2, k3⟩ := mj_most_some (hx (r + 1)) (show n ≤ 12 by omega) hS hS0
        rw [if_neg (fun z => z (by rw [ho])), s_bold (d := d' + 5) n10 (by omega) (by rw [mj_u_pt (by omega), gM _ _ (by omega) (by omega) (by omega) (by omega) (by omega)]; exact m6), mj_bi_some, g225_78, if_pos (au_out hWS |>.mp ho)]
        have e1 : mj_most (fun k => (mj_u g 205 46 (hm 205 46 ||| nI W)) 206 (5 + k)) S n = nI K := by
          rw [← k3, ← hcong hm q]
          exact mj_most_congr n (by omega) (fun k hk => by rw [mj_u_pt (by omega)]; exact g5 k (by omega))
        rw [e1, k3, mj_nIc (by omega), bx_one K (by omega)]
      · rw [if_pos (by rw [mj_nIeq (by omega) (by omega)]; exact ho), g225_82, bx_df, if_neg (fun z => ho ((au_out hWS).mpr z)), mj_df_or]
  have fin : ∀ (hm g hx' : mj_HI) (v : Int32), au r n l hx' g → au r n l hx' (mj_u g 205 46 v) := fun hm g hx' v q => au_c q (fun _ _ _ => rfl) (fun a k z => mj_u_pt (by omega))
  obtain ⟨sb, s0⟩ := au_S_ok (f := hx (r + 1)) (W := W) (D := mj_df (wv_pn f t W p &&& S) W) n10 hS hS0
  have uM : ∀ hm, hm 205 6 = nI n → (∀ k, k < 10 → hm 225 k = nI (wv_pn f t (2 ^ k) p)) → mj_dc mj_P E (d' + 7) 224 [.ref 205, .int (nI S), .int (nI W), .int wd] (mj_hw w c hm hl) = mj_den mj_P E (d' + 6) 224 56 [.ref 205, .int (nI S), .int (nI W), .int wd, .int (nI (wv_pn f t W p)), .int (nI (mj_df (wv_pn f t W p &&& S) W)), .int 0] [] (mj_hw w c hm hl) := fun hm m6 hM => s_dragU (d' := d' + 5) n10 (by omega) m6 pn (fun i hi => (pf i hi).2.2.2) hM
  -- the class, behind the notes
  have ctail : ∀ (g : mj_HI) (v7 : Int32), ¬ W = 0 → g r 0 = nI n → g (r + 1) = hx (r + 1) → mj_den mj_P E (d + 5) 3 64 [.ref 188, .ref 1, .ref r, .int (nI S), .int (nI W), .int wd, .int (if r = 2 then 0 else 1), .int (nI (mj_df (wv_pn f t W p &&& S) W)), .int v7] [] (mj_hw w c g hl) = some (some (.int (nI (au_S (hx (r + 1)) n S W (mj_df (wv_pn f t W p &&& S) W)))), mj_hw w c g hl) := fun g v7 hW0 g0 g1 => by
    rw [g3_64 hr, bx_df, bx_df]
    unfold au_S
    rw [if_neg hW0]
    by_cases hz : mj_df (mj_df S W) (mj_df (wv_pn f t W p &&& S) W) = 0
    · obtain ⟨K, k1, k2, k3⟩ := mj_most_some (hx (r + 1)) (show n ≤ 12 by omega) hS hS0
      rw [hz, if_pos (show nI 0 = 0 from rfl), if_pos (show (0 : Nat) = 0 from rfl), g3_87 hr, s_calmR (d := d + 3) hr2 n10 (by omega) g0, mj_bi_some, g1, k3, g3_93 hr, bx_one K (by omega), g3_94 hr, mj_nIc (by omega)]
    · have hlt : mj_df (mj_df S W) (mj_df (wv_pn f t W p &&& S) W) < 2 ^ n := mj_df_le _ _ (mj_df_le _ _ hS)
      rw [if_neg (by rw [mj_ez (by omega)]; exact hz), if_neg hz, g3_94 hr]
  have chead : ¬ W = 0 → mj_dc mj_P E (d + 6) 3 [.ref 188, .ref 1, .ref r, .int (nI S), .int (nI W), .int wd, .int (if r = 2 then 0 else 1)] (mj_hw w c hx hl) = mj_den mj_P E (d + 5) 3 25 [.ref 188, .ref 1, .ref r, .int (nI S), .int (nI W), .int wd, .int (if r = 2 then 0 else 1), .int (nI (mj_df (wv_pn f t W p &&& S) W)), .int 0] [] (mj_hw w c hx hl) := fun hW0 => by
    rw [xg3 E (d + 5) r, g3_0 hr, if_pos (by rw [mj_ez (by omega)]; exact hW0), g3_7 hr, s_pinch (d := d + 3) p16 (by omega) p26 pf, mj_bi_some, g3_13 hr, bx_and, bx_df]
  by_cases hW0 : W = 0
  · refine ⟨hx, au_S (hx (r + 1)) n S W (mj_df (wv_pn f t W p &&& S) W), ?_, fun _ _ _ _ _ _ _ => rfl, fun _ => ⟨rfl, rfl⟩, sb, s0, au_S_sub n10 hS hS0, h0, h1, hb, fun ops args kd wds hm u6 qM q => ?_⟩
    · unfold au_S
      rw [if_pos hW0, hW0, xg3 E (d + 5) r, g3_0 hr, if_neg (by decide)]
    · obtain ⟨m5, m6, m7, mL, mS, mP⟩ := qM
      have hz : mj_df (wv_pn f t W p &&& S) W = 0 := by rw [hW0, wv_pn_z, Nat.zero_and]; rfl
      obtain ⟨u6', e⟩ := tail hm hm u6 m6 (fun _ _ _ _ _ _ _ => rfl) q (fun _ _ => rfl) rfl (by rw [uM hm m6 mP]; exact s_dragT (d' := d' + 4) n10 (by omega) (Or.inr hz) m6)
      exact ⟨_, u6', e, fun a k z1 z2 z3 z4 z5 => mj_u_pt (by omega), fin hm hm hx _ q, mj_u_eq⟩
  · rcases hr2 with rfl | rfl
    · obtain ⟨g, e1, e2, e3, e4, e5, e6⟩ := s_dragN (E := E) (d := d) (d' := d') (w := w) (c := c) (hl := hl) (n := n) (l := l) (S := S) (W := W) (D := mj_df (wv_pn f t W p &&& S) W) (wd := wd) (v4 := nI (wv_pn f t W p)) n10 (by omega) hr n 0 hx (by omega) h0 hb
      have g3 : g (2 + 1) = hx (2 + 1) := funext (fun k => e3 _ _ (by omega) (by omega))
      refine ⟨g, au_S (hx (2 + 1)) n S W (mj_df (wv_pn f t W p &&& S) W), ?_, e2, fun k => ⟨e3 _ _ (by omega) (by omega), e3 _ _ (by omega) (by omega)⟩, sb, s0, au_S_sub n10 hS hS0, by rw [e4 _ (by omega)]; exact h0, by rw [e4 _ (by omega)]; exact h1, e5, fun ops args kd wds hm u6 qM q => ?_⟩
      · rw [chead hW0]
        refine Eq.trans e1 ?_
        exact ctail g _ hW0 (by rw [e4 _ (by omega)]; exact h0) g3
      · obtain ⟨m5, m6, m7, mL, mS, mP⟩ := qM
        obtain ⟨f', c1, c2, c3⟩ := e6 hm m5 m6 q
        have f5 : ∀ k, k < 10 → f' 206 (5 + k) = hm 206 (5 + k) := fun k hk => by
          have z1 := (c3.1.2.2.1 k hk).1
          have z2 := (q.1.2.2.1 k hk).1
          rw [← z1, ← z2, g3]
        obtain ⟨u6', e⟩ := tail hm f' u6 m6 (au_N_M c2) q f5 (c2 _ _ (by omega) (by omega)) (by rw [uM hm m6 mP]; exact c1)
        exact ⟨_, u6', e, au_M_t (au_N_M c2) (fun a k z1 z2 z3 z4 z5 => mj_u_pt (by omega)), fin hm f' g _ c3, mj_u_eq⟩
    · have c25 : mj_den mj_P E (d + 5) 3 25 [.ref 188, .ref 1, .ref 177, .int (nI S), .int (nI W), .int wd, .int (if 177 = 2 then 0 else 1), .int (nI (mj_df (wv_pn f t W p &&& S) W)), .int 0] [] (mj_hw w c hx hl) = mj_den mj_P E (d + 5) 3 64 [.ref 188, .ref 1, .ref 177, .int (nI S), .int (nI W), .int wd, .int (if 177 = 2 then 0 else 1), .int (nI (mj_df (wv_pn f t W p &&& S) W)), .int 0] [] (mj_hw w c hx hl) := by
        rw [g3_25 hr]
        split
        · rfl
        · rw [if_pos (by decide)]
      refine ⟨hx, au_S (hx (177 + 1)) n S W (mj_df (wv_pn f t W p &&& S) W), ?_, fun _ _ _ _ _ _ _ => rfl, fun _ => ⟨rfl, rfl⟩, sb, s0, au_S_sub n10 hS hS0, h0, h1, hb, fun ops args kd wds hm u6 qM q => ?_⟩
      · rw [chead hW0, c25]
        exact ctail hx _ hW0 h0 rfl
      · obtain ⟨m5, m6, m7, mL, mS, mP⟩ := qM
        have m5' : ¬ hm 205 5 = 0 := by rw [m5]; decide
        obtain ⟨u6', e⟩ := tail hm hm u6 m6 (fun _ _ _ _ _ _ _ => rfl) q (fun _ _ => rfl) rfl (by rw [uM hm m6 mP]; exact s_dragT (d' := d' + 4) n10 (by omega) (Or.inl m5') m6)
        exact ⟨_, u6', e, fun a k z1 z2 z3 z4 z5 => mj_u_pt (by omega), fin hm hm hx _ q, mj_u_eq⟩
end MJ83
