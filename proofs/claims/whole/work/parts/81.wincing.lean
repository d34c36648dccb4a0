def wl_Wx (r : Nat) (h : mj_HI) (cb cw cc : Nat → Nat) (L κ K k : Nat) (v5 v6 v7 : Int32) : Int32 := wl_cl (wl_a (wl_v (h (r + 1) K) (h (r + 2) K) (h (r + 4) K) (h (r + 6) K) (h (r + 8) k) (h (r + 9) k) v5 v6 (h r 2) v7) (h 18) (h 19) (h 14) cb cw cc (nI κ) 0 L (wl_df (wl_v (h (r + 1) K) (h (r + 2) K) (h (r + 4) K) (h (r + 6) K) (h (r + 8) k) (h (r + 9) k) v5 v6 (h r 2) v7) (nI κ))) (wl_lim κ)
theorem au_W {r n l K k κ L : Nat} {cb cw cc : Nat → Nat} {hx hm : mj_HI} {v5 v6 v7 : Int32} (q : au r n l hx hm) (hK : K < 10) (hk : k < 12) : wl_Wx r hx cb cw cc L κ K k v5 v6 v7 = wl_W hm (hx 18) (hx 19) (hx 14) cb cw cc L κ K k v5 v6 v7 := by
  obtain ⟨⟨⟨a0, a1, a2, a3, a4, a5, a6⟩, hb, x3, x4, x5, x6, x7⟩, y⟩ := q
  obtain ⟨b1, b2, b3, b4, b5, b6⟩ := x3 K hK
  obtain ⟨c1, c2⟩ := x5 k hk
  unfold wl_Wx wl_W
  rw [a2, b1, b2, b4, b6, c1, c2]
theorem wl_cl_b {x : Int32} {M : Nat} (hM : M < 100000) : ∃ X, X ≤ M ∧ wl_cl x (nI M) = nI X := by
  unfold wl_cl
  by_cases h : 0 ≤ x
  · rw [if_pos h]
    obtain ⟨X, hX, rfl⟩ := mj_ofn h
    by_cases h2 : nI X ≤ nI M
    · rw [if_pos h2]
      rw [mj_nIle hX (by omega)] at h2
      exact ⟨X, h2, rfl⟩
    · rw [if_neg h2]; exact ⟨M, Nat.le_refl _, rfl⟩
  · rw [if_neg h]; exact ⟨0, by omega, rfl⟩
section MJ81
variable {E : mj_E} {d d' w c : Nat} {hl : Nat → Nat → Int64}
theorem s_draw74 {r : Nat} {hx : mj_HI} (hr : mj_Rm w c r) : mj_dc mj_P E (d + 1) 74 [.ref r, .int (nI 1000)] (mj_hw w c hx hl) = some (some (.int (mj_rem (mj_ush (hx r 5 * 1664525 + 1013904223) 8) (nI 1000))), mj_hw w c (mj_u hx r 5 (hx r 5 * 1664525 + 1013904223)) hl) := by
  rw [xg74 E d r, g74_0 hr, if_neg (by decide), if_neg (by decide), g74_31 hr, mj_u_eq]
theorem s_draw163 {hm : mj_HI} : mj_dc mj_P E (d' + 1) 163 [.ref 205, .int (nI 1000)] (mj_hw w c hm hl) = some (some (.int (mj_rem (mj_ush (hm 206 1 * 1664525 + 1013904223) 8) (nI 1000))), mj_hw w c (mj_u hm 206 1 (hm 206 1 * 1664525 + 1013904223)) hl) := by
  have z1 : (1 : Int32).toNatClampNeg = 1 := by decide
  have z01 : ((0 : Int32) ≤ 1 ∧ (1 : Int32).toNatClampNeg < 57) := by decide
  rw [e163, q163_0, if_pos z01, if_pos z01, if_pos z01, if_neg (by decide), z1, mj_u_eq, Int32.mul_comm 1664525]
/-- the class's wincing and the reference's wincers, from dealer i on -/
theorem s_winc {r n l k L len S T : Nat} {cb cw cc : Nat → Nat} {wd : Int32} (hE : mj_EK E) (hr : mj_Rm w c r) (hr2 : r = 2 ∨ r = 177) (n10 : n ≤ 10) (l12 : l ≤ 12) (hk : k < l) (hS : S < 4096) {ops args kd : Nat → Int32} : ∀ (cnt i acc : Nat) (hx : mj_HI) (u9 : Value), i + cnt = n → acc < 2 ^ i → hx r 0 = nI n → hx r 1 = nI l → (∃ b, b ≤ 150 ∧ hx r 6 = nI b) → hx 188 1 = nI T → wl_C hx L len cb cw cc → hx 18 = ops → hx 19 = args → hx 14 = kd → ∃ (hx' : mj_HI) (acc' : Nat), mj_den mj_P E (d + 5) 2 13 [.ref 188, .ref 1, .ref r, .int (nI k), .int (nI S), .int wd, .int (if r = 2 then 0 else 1), .int (nI (mj_pc 12 S)), .int (nI acc), .int (nI i), u9] [] (mj_hw w c hx hl) = some (some (.int (nI acc')), mj_hw w c hx' hl) ∧ au_X r hx hx' ∧ (∀ k, hx' 188 k = hx 188 k ∧ hx' (r + 10) k = hx (r + 10) k) ∧ acc' < 2 ^ n ∧ (∀ j, acc'.testBit j = true → acc.testBit j = true ∨ S.testBit j = true) ∧ hx' r 0 = nI n ∧ hx' r 1 = nI l ∧ (∃ b, b ≤ 150 ∧ hx' r 6 = nI b) ∧ ∀ hm, hm 205 5 = (if r = 2 then 0 else 1) → hm 205 6 = nI n → wl_M hm ops args kd L len cb cw cc → au r n l hx hm → ∃ hm', mj_den mj_P E (d' + 6) 223 13 [.ref 205, .int (nI k), .int (nI S), .int (nI T), .int wd, .int (nI acc), .int (nI i)] [] (mj_hw w c hm hl) = some (some (.int (nI acc')), mj_hw w c hm' hl) ∧ au_O hm hm' ∧ au r n l hx' hm' := by
  intro cnt
  induction cnt with
  | zero =>
    intro i acc hx u9 hin hacc h0 h1 hb h188 qC ho ha hk'
    have hin : i = n := by omega
    subst hin
    refine ⟨hx, acc, ?_, fun _ _ _ _ _ _ _ => rfl, fun _ => ⟨rfl, rfl⟩, hacc, fun j h => Or.inl h, h0, h1, hb, fun hm m5 m6 qM q => ⟨hm, ?_, fun _ _ _ _ _ _ _ => rfl, q⟩⟩
    · rw [g2_13 hr, h0, if_pos (Int32.le_refl _), g2_132 hr]
    · rw [q223_13, m6, if_pos (Int32.le_refl _), q223_103]
  | succ cnt ih =>
    intro i acc hx u9 hin hacc h0 h1 hb h188 qC ho ha hk'
    have hi10 : i < 10 := by omega
    have hpc : (2 : Nat) ^ i ≤ 2 ^ 10 := Nat.pow_le_pow_right (by omega) (by omega)
    have hpi : (2 : Nat) ^ (i + 1) = 2 ^ i * 2 := Nat.pow_succ 2 i
    have hle : ¬ nI n ≤ nI i := by rw [mj_nIle (by omega) (by omega)]; omega
    have hle2 : ¬ nI 10 ≤ nI i := by rw [mj_nIle (by omega) (by omega)]; omega
    -- passing on with the same set
    have skip : ∀ (g : mj_HI) (u : Value), au_X r hx g → (∀ k, g 188 k = hx 188 k ∧ g (r + 10) k = hx (r + 10) k) → g r 0 = nI n → g r 1 = nI l → (∃ b, b ≤ 150 ∧ g r 6 = nI b) → ∀ (acc2 : Nat), acc2 < 2 ^ (i + 1) → (∀ j, acc2.testBit j = true → acc.testBit j = true ∨ S.testBit j = true) → ∃ (hx' : mj_HI) (acc' : Nat), mj_den mj_P E (d + 5) 2 126 [.ref 188, .ref 1, .ref r, .int (nI k), .int (nI S), .int wd, .int (if r = 2 then 0 else 1), .int (nI (mj_pc 12 S)), .int (nI acc2), .int (nI i), u] [] (mj_hw w c g hl) = some (some (.int (nI acc')), mj_hw w c hx' hl) ∧ au_X r hx hx' ∧ (∀ k, hx' 188 k = hx 188 k ∧ hx' (r + 10) k = hx (r + 10) k) ∧ acc' < 2 ^ n ∧ (∀ j, acc'.testBit j = true → acc.testBit j = true ∨ S.testBit j = true) ∧ hx' r 0 = nI n ∧ hx' r 1 = nI l ∧ (∃ b, b ≤ 150 ∧ hx' r 6 = nI b) ∧ ∀ hm, hm 205 5 = (if r = 2 then 0 else 1) → hm 205 6 = nI n → wl_M hm ops args kd L len cb cw cc → au r n l g hm → ∃ hm', mj_den mj_P E (d' + 6) 223 97 [.ref 205, .int (nI k), .int (nI S), .int (nI T), .int wd, .int (nI acc2), .int (nI i)] [] (mj_hw w c hm hl) = some (some (.int (nI acc')), mj_hw w c hm' hl) ∧ au_O hm hm' ∧ au r n l hx' hm' := by
      intro g u gX g188 g0 g1 gb acc2 hacc2 hsub
      have hc : ∀ a k, 13 ≤ a → a ≤ 19 → g a k = hx a k := fun a k z1 z2 => gX a k (by omega) (by omega) (by omega) (by omega) (by omega)
      obtain ⟨hx', acc', e1, e2, e3, e4, e5, e6, e7, e8, e9⟩ := ih (i + 1) acc2 g u (by omega) hacc2 g0 g1 gb (by rw [(g188 _).1]; exact h188) (wl_C_congr qC hc) (by rw [← ho]; exact funext (fun k => hc _ _ (by omega) (by omega))) (by rw [← ha]; exact funext (fun k => hc _ _ (by omega) (by omega))) (by rw [← hk']; exact funext (fun k => hc _ _ (by omega) (by omega)))
      refine ⟨hx', acc', ?_, au_X_t gX e2, fun k => ⟨(e3 k).1.trans (g188 k).1, (e3 k).2.trans (g188 k).2⟩, e4, fun j hj => (e5 j hj).elim (hsub j) Or.inr, e6, e7, e8, fun hm m5 m6 qM q => ?_⟩
      · rw [g2_126 hr, mj_nIs]; exact e1
      · obtain ⟨hm', f1, f2, f3⟩ := e9 hm m5 m6 qM q
        exact ⟨hm', by rw [q223_97, mj_nIs]; exact f1, f2, f3⟩
    have hXX : au_X r hx hx := fun _ _ _ _ _ _ _ => rfl
    by_cases hbit : S.testBit i = true
    · -- asked
      obtain ⟨g, eg, pg⟩ := s_asked (E := E) (d := d + 1) (w := w) (c := c) (hi := hx) (hl := hl) (κ := 0) (v5 := wd) (v6 := nI T) (v7 := nI (mj_pc 12 S)) hE hr hr2 n10 l12 h0 h1 (show i < n by omega) hk (by omega) qC
      have eg2 : mj_dc mj_P E (d + 5) 18 [.ref 13, .ref r, .int 0, .int (nI i), .int (nI k), .int wd, .int (nI T), .int (nI (mj_pc 12 S))] (mj_hw w c hx hl) = some (some (.int (wl_Wx r hx cb cw cc L 0 i k wd (nI T) (nI (mj_pc 12 S)))), mj_hw w c g hl) := eg
      obtain ⟨X, hX, hWX⟩ : ∃ X, X ≤ 1000 ∧ wl_Wx r hx cb cw cc L 0 i k wd (nI T) (nI (mj_pc 12 S)) = nI X := wl_cl_b (by omega)
      have gX : au_X r hx g := fun a k z1 z2 z3 z4 z5 => pg a k z2 z3
      have g188 : ∀ k, g 188 k = hx 188 k ∧ g (r + 10) k = hx (r + 10) k := fun k => ⟨pg _ _ (by omega) (by omega), pg _ _ (by omega) (by omega)⟩
      have gr : ∀ a k, r ≤ a → a ≤ r + 10 → g a k = hx a k := fun a k z1 z2 => pg _ _ (by omega) (by omega)
      have g0 : g r 0 = nI n := by rw [gr _ _ (by omega) (by omega)]; exact h0
      have g1 : g r 1 = nI l := by rw [gr _ _ (by omega) (by omega)]; exact h1
      have gb : ∃ b, b ≤ 150 ∧ g r 6 = nI b := by rw [gr _ _ (by omega) (by omega)]; exact hb
      have hcls : mj_den mj_P E (d + 5) 2 13 [.ref 188, .ref 1, .ref r, .int (nI k), .int (nI S), .int wd, .int (if r = 2 then 0 else 1), .int (nI (mj_pc 12 S)), .int (nI acc), .int (nI i), u9] [] (mj_hw w c hx hl) = mj_den mj_P E (d + 5) 2 62 [.ref 188, .ref 1, .ref r, .int (nI k), .int (nI S), .int wd, .int (if r = 2 then 0 else 1), .int (nI (mj_pc 12 S)), .int (nI acc), .int (nI i), u9] [.int (nI X)] (mj_hw w c g hl) := by
        rw [g2_13 hr, h0, if_neg hle, show (10 : Int32) = nI 10 from rfl, if_neg hle2, s_hX (d := d + 4) (by omega) (by omega), mj_bi_some, g2_36 hr, hbit, if_pos (by decide), g2_42 hr, h188, eg2, mj_bi_some, hWX]
      have hmod : ∀ hm, hm 205 6 = nI n → wl_M hm ops args kd L len cb cw cc → au r n l hx hm → ∃ f, au_O hm f ∧ (∀ a k, a ≠ 227 → a ≠ 228 → f a k = hm a k) ∧ mj_den mj_P E (d' + 6) 223 13 [.ref 205, .int (nI k), .int (nI S), .int (nI T), .int wd, .int (nI acc), .int (nI i)] [] (mj_hw w c hm hl) = mj_den mj_P E (d' + 6) 223 48 [.ref 205, .int (nI k), .int (nI S), .int (nI T), .int wd, .int (nI acc), .int (nI i)] [.int (nI X), .ref 205] (mj_hw w c f hl) := fun hm m6 qM q => by
        obtain ⟨f, ef, pf⟩ := s_winceOf (E := E) (d := d' + 1) (w := w) (c := c) (hi := hm) (hl := hl) (K := i) (k := k) (v3 := wd) (v4 := nI T) (v5 := nI (mj_pc 12 S)) qM (by omega) (by omega)
        have hW := au_W (L := L) (κ := 0) (cb := cb) (cw := cw) (cc := cc) (v5 := wd) (v6 := nI T) (v7 := nI (mj_pc 12 S)) q hi10 (show k < 12 by omega)
        rw [ho, ha, hk'] at hW
        rw [← hW, hWX] at ef
        have ef2 : mj_dc mj_P E (d' + 6) 216 _ _ = _ := ef
        refine ⟨f, fun a k z1 z2 z3 z4 z5 => pf a k z3 z4, pf, ?_⟩
        rw [q223_13, m6, if_neg hle, s_hM (d := d' + 5) (by omega) (by omega), mj_bi_some, q223_29, hbit, if_neg (by decide), s_ones (d := d' + 5) hS, mj_bi_some, q223_45, ef2, mj_bi_some]
      -- a wince
      have hor : acc ||| 2 ^ i < 2 ^ (i + 1) := Nat.or_lt_two_pow (by omega) (by omega)
      have hors : ∀ j, (acc ||| 2 ^ i).testBit j = true → acc.testBit j = true ∨ S.testBit j = true := fun j hj => by
        rw [Nat.testBit_or, Nat.testBit_two_pow] at hj
        by_cases hij : i = j
        · subst hij; exact Or.inr hbit
        · rw [decide_eq_false hij, Bool.or_false] at hj; exact Or.inl hj
      have hsub1 : ∀ j, acc.testBit j = true → acc.testBit j = true ∨ S.testBit j = true := fun j h => Or.inl h
      have hn35 : nI 35 + nI i = nI (35 + i) := mj_nIadd 35 i
      have addl : ∀ (G : mj_HI) (u : Value), au_X r hx G → (∀ k, G 188 k = hx 188 k ∧ G (r + 10) k = hx (r + 10) k) → G r 0 = nI n → G r 1 = nI l → (∃ b, b ≤ 150 ∧ G r 6 = nI b) → ∃ g2, mj_den mj_P E (d + 5) 2 92 [.ref 188, .ref 1, .ref r, .int (nI k), .int (nI S), .int wd, .int (if r = 2 then 0 else 1), .int (nI (mj_pc 12 S)), .int (nI acc), .int (nI i), .int (nI X)] [] (mj_hw w c G hl) = mj_den mj_P E (d + 5) 2 126 [.ref 188, .ref 1, .ref r, .int (nI k), .int (nI S), .int wd, .int (if r = 2 then 0 else 1), .int (nI (mj_pc 12 S)), .int (nI (acc ||| 2 ^ i)), .int (nI i), .int (nI X)] [] (mj_hw w c g2 hl) ∧ au_X r hx g2 ∧ (∀ k, g2 188 k = hx 188 k ∧ g2 (r + 10) k = hx (r + 10) k) ∧ g2 r 0 = nI n ∧ g2 r 1 = nI l ∧ (∃ b, b ≤ 150 ∧ g2 r 6 = nI b) ∧ ∀ f1, f1 205 5 = (if r = 2 then 0 else 1) → au r n l G f1 → ∃ f2, mj_den mj_P E (d' + 6) 223 57 [.ref 205, .int (nI k), .int (nI S), .int (nI T), .int wd, .int (nI acc), .int (nI i)] [] (mj_hw w c f1 hl) = mj_den mj_P E (d' + 6) 223 97 [.ref 205, .int (nI k), .int (nI S), .int (nI T), .int wd, .int (nI (acc ||| 2 ^ i)), .int (nI i)] [] (mj_hw w c f2 hl) ∧ au_O f1 f2 ∧ au r n l g2 f2 := by
        intro G u gX1 g1188 g10 g11 g1b
        rcases hr2 with rfl | rfl
        · obtain ⟨g2, n1, n2, n3, n4, n6, _, n5⟩ := s_note (E := E) (d := d + 4) (d' := d' + 5) (w := w) (c := c) (hl := hl) (n := n) (l := l) (hx := mj_u G (2 + 6) i (G (2 + 6) i + 1)) (by rw [mj_u_pt (by omega)]; exact g1b) 0 (nI i) wd
          have n2' : au_X 2 G g2 := au_X_t (fun a k z1 z2 z3 z4 z5 => mj_u_pt (by omega)) n2
          refine ⟨g2, ?_, au_X_t gX1 n2', fun k => ⟨by rw [n3 _ _ (by omega) (by omega), mj_u_pt (by omega)]; exact (g1188 k).1, by rw [n3 _ _ (by omega) (by omega), mj_u_pt (by omega)]; exact (g1188 k).2⟩, by rw [n4 _ (by omega), mj_u_pt (by omega)]; exact g10, by rw [n4 _ (by omega), mj_u_pt (by omega)]; exact g11, ?_, fun f1 m5 q => ?_⟩
          · rw [g2_92 hr]
            simp (disch := omega) only [↓reduceIte, Bool.false_eq_true, eq_self, mj_10, mj_01, mj_n10, mj_0n1, mj_1n1, mj_n11, mj_bi_some, mj_bv_some, mj_bj_some, mj_br_some, mj_r0, mj_r1, mj_q0, mj_q1, mj_b01, mj_q2, if_true, if_false, mj_it, mj_if, true_and, and_true, false_and, and_false, not_true_eq_false, not_false_eq_true, true_or, or_true, false_or, or_false, mj_nIle, mj_nIlt, mj_nIeq, mj_nI0, mj_nIc, mj_nIadd, mj_nIs, mj_ez, mj_ze, mj_eo, mj_ltz, mj_lez, mj_zlt, mj_olt, mj_lto, mj_leo, mj_ole, mj_nIn, mj_nnI, nl_2, nl_3, nl_4, nl_5, nl_6, nl_7, nl_8, nl_9, nl_10, nl_11, nl_12, nl_13, nl_14, nl_15, nl_16, nl_17, nl_18, nl_19, nl_20, nl_21, nl_22, nl_23, nl_24, nl_25, nl_26, nl_27, nl_28, nl_29, nl_30, nl_32, nl_33, nl_34, nl_35, nl_36, nl_37, nl_38, nl_39, nl_40, nl_41, nl_42, nl_43, nl_44, nl_45, nl_46, nl_47, nl_48, nl_49, nl_50, nl_51, nl_52, nl_53, nl_54, nl_55, nl_56, nl_57, nl_58, nl_59, nl_60, nl_61, nl_62, nl_64, nl_65, nl_66, nl_67, nl_68, nl_69, nl_92, nl_97, nl_99, nl_100, nl_122, nl_127, nl_128, nl_131, nl_132, nl_150, nl_200, nl_255, nl_256, nl_300, nl_342, nl_380, nl_381, nl_400, nl_401, nl_420, nl_500, nl_600, nl_800, nl_999, nl_1000, nl_1023, nl_1024, nl_1200, nl_2048, nl_2100, nl_4096, nl_9999, nl_10000, nl_10240, nl_999999, nl_1000000, if_pos, if_neg, n1, bx_one, bx_or]
          · exact n6
          · obtain ⟨f2, f3, f4, f5⟩ := n5 (mj_u f1 206 (35 + i) (f1 206 (35 + i) + 1)) (by rw [mj_u_pt (by omega)]; exact m5) (au_wince n10 hi10 (Or.inl rfl) q)
            refine ⟨f2, ?_, au_O_t (fun a k z1 z2 z3 z4 z5 => mj_u_pt (by omega)) (au_N_O f4), f5⟩
            rw [q223_57]
            simp (disch := omega) only [↓reduceIte, Bool.false_eq_true, eq_self, mj_10, mj_01, mj_n10, mj_0n1, mj_1n1, mj_n11, mj_bi_some, mj_bv_some, mj_bj_some, mj_br_some, mj_r0, mj_r1, mj_q0, mj_q1, mj_b01, mj_q2, if_true, if_false, mj_it, mj_if, true_and, and_true, false_and, and_false, not_true_eq_false, not_false_eq_true, true_or, or_true, false_or, or_false, mj_nIle, mj_nIlt, mj_nIeq, mj_nI0, mj_nIc, mj_nIadd, mj_nIs, mj_ez, mj_ze, mj_eo, mj_ltz, mj_lez, mj_zlt, mj_olt, mj_lto, mj_leo, mj_ole, mj_nIn, mj_nnI, nl_2, nl_3, nl_4, nl_5, nl_6, nl_7, nl_8, nl_9, nl_10, nl_11, nl_12, nl_13, nl_14, nl_15, nl_16, nl_17, nl_18, nl_19, nl_20, nl_21, nl_22, nl_23, nl_24, nl_25, nl_26, nl_27, nl_28, nl_29, nl_30, nl_32, nl_33, nl_34, nl_35, nl_36, nl_37, nl_38, nl_39, nl_40, nl_41, nl_42, nl_43, nl_44, nl_45, nl_46, nl_47, nl_48, nl_49, nl_50, nl_51, nl_52, nl_53, nl_54, nl_55, nl_56, nl_57, nl_58, nl_59, nl_60, nl_61, nl_62, nl_64, nl_65, nl_66, nl_67, nl_68, nl_69, nl_92, nl_97, nl_99, nl_100, nl_122, nl_127, nl_128, nl_131, nl_132, nl_150, nl_200, nl_255, nl_256, nl_300, nl_342, nl_380, nl_381, nl_400, nl_401, nl_420, nl_500, nl_600, nl_800, nl_999, nl_1000, nl_1023, nl_1024, nl_1200, nl_2048, nl_2100, nl_4096, nl_9999, nl_10000, nl_10240, nl_999999, nl_1000000, if_pos, if_neg, hn35, f3, bx_one, bx_or]
        · refine ⟨mj_u G (177 + 6) i (G (177 + 6) i + 1), ?_, au_X_t gX1 (fun a k z1 z2 z3 z4 z5 => mj_u_pt (by omega)), fun k => ⟨by rw [mj_u_pt (by omega)]; exact (g1188 k).1, by rw [mj_u_pt (by omega)]; exact (g1188 k).2⟩, by rw [mj_u_pt (by omega)]; exact g10, by rw [mj_u_pt (by omega)]; exact g11, by rw [mj_u_pt (by omega)]; exact g1b, fun f1 m5 q => ⟨mj_u f1 206 (35 + i) (f1 206 (35 + i) + 1), ?_, fun a k z1 z2 z3 z4 z5 => mj_u_pt (by omega), au_wince n10 hi10 (Or.inr rfl) q⟩⟩
          · rw [g2_92 hr]
            simp (disch := omega) only [↓reduceIte, Bool.false_eq_true, eq_self, mj_10, mj_01, mj_n10, mj_0n1, mj_1n1, mj_n11, mj_bi_some, mj_bv_some, mj_bj_some, mj_br_some, mj_r0, mj_r1, mj_q0, mj_q1, mj_b01, mj_q2, if_true, if_false, mj_it, mj_if, true_and, and_true, false_and, and_false, not_true_eq_false, not_false_eq_true, true_or, or_true, false_or, or_false, mj_nIle, mj_nIlt, mj_nIeq, mj_nI0, mj_nIc, mj_nIadd, mj_nIs, mj_ez, mj_ze, mj_eo, mj_ltz, mj_lez, mj_zlt, mj_olt, mj_lto, mj_leo, mj_ole, mj_nIn, mj_nnI, nl_2, nl_3, nl_4, nl_5, nl_6, nl_7, nl_8, nl_9, nl_10, nl_11, nl_12, nl_13, nl_14, nl_15, nl_16, nl_17, nl_18, nl_19, nl_20, nl_21, nl_22, nl_23, nl_24, nl_25, nl_26, nl_27, nl_28, nl_29, nl_30, nl_32, nl_33, nl_34, nl_35, nl_36, nl_37, nl_38, nl_39, nl_40, nl_41, nl_42, nl_43, nl_44, nl_45, nl_46, nl_47, nl_48, nl_49, nl_50, nl_51, nl_52, nl_53, nl_54, nl_55, nl_56, nl_57, nl_58, nl_59, nl_60, nl_61, nl_62, nl_64, nl_65, nl_66, nl_67, nl_68, nl_69, nl_92, nl_97, nl_99, nl_100, nl_122, nl_127, nl_128, nl_131, nl_132, nl_150, nl_200, nl_255, nl_256, nl_300, nl_342, nl_380, nl_381, nl_400, nl_401, nl_420, nl_500, nl_600, nl_800, nl_999, nl_1000, nl_1023, nl_1024, nl_1200, nl_2048, nl_2100, nl_4096, nl_9999, nl_10000, nl_10240, nl_999999, nl_1000000, if_pos, if_neg, bx_one, bx_or]
          · have m5' : ¬ (mj_u f1 206 (35 + i) (f1 206 (35 + i) + 1)) 205 5 = 0 := by rw [mj_u_pt (by omega), m5]; decide
            rw [q223_57]
            simp (disch := omega) only [↓reduceIte, Bool.false_eq_true, eq_self, mj_10, mj_01, mj_n10, mj_0n1, mj_1n1, mj_n11, mj_bi_some, mj_bv_some, mj_bj_some, mj_br_some, mj_r0, mj_r1, mj_q0, mj_q1, mj_b01, mj_q2, if_true, if_false, mj_it, mj_if, true_and, and_true, false_and, and_false, not_true_eq_false, not_false_eq_true, true_or, or_true, false_or, or_false, mj_nIle, mj_nIlt, mj_nIeq, mj_nI0, mj_nIc, mj_nIadd, mj_nIs, mj_ez, mj_ze, mj_eo, mj_ltz, mj_lez, mj_zlt, mj_olt, mj_lto, mj_leo, mj_ole, mj_nIn, mj_nnI, nl_2, nl_3, nl_4, nl_5, nl_6, nl_7, nl_8, nl_9, nl_10, nl_11, nl_12, nl_13, nl_14, nl_15, nl_16, nl_17, nl_18, nl_19, nl_20, nl_21, nl_22, nl_23, nl_24, nl_25, nl_26, nl_27, nl_28, nl_29, nl_30, nl_32, nl_33, nl_34, nl_35, nl_36, nl_37, nl_38, nl_39, nl_40, nl_41, nl_42, nl_43, nl_44, nl_45, nl_46, nl_47, nl_48, nl_49, nl_50, nl_51, nl_52, nl_53, nl_54, nl_55, nl_56, nl_57, nl_58, nl_59, nl_60, nl_61, nl_62, nl_64, nl_65, nl_66, nl_67, nl_68, nl_69, nl_92, nl_97, nl_99, nl_100, nl_122, nl_127, nl_128, nl_131, nl_132, nl_150, nl_200, nl_255, nl_256, nl_300, nl_342, nl_380, nl_381, nl_400, nl_401, nl_420, nl_500, nl_600, nl_800, nl_999, nl_1000, nl_1023, nl_1024, nl_1200, nl_2048, nl_2100, nl_4096, nl_9999, nl_10000, nl_10240, nl_999999, nl_1000000, if_pos, if_neg, hn35, e220, q220_0, q220_19, m5', bx_one, bx_or]
      rcases hr2 with rfl | rfl
      · have g3X : au_X 2 hx (mj_u g 2 5 (g 2 5 * 1664525 + 1013904223)) := au_X_t gX (fun a k z1 z2 z3 z4 z5 => mj_u_pt (by omega))
        have g3188 : ∀ k, (mj_u g 2 5 (g 2 5 * 1664525 + 1013904223)) 188 k = hx 188 k ∧ (mj_u g 2 5 (g 2 5 * 1664525 + 1013904223)) (2 + 10) k = hx (2 + 10) k := fun k => ⟨by rw [mj_u_pt (by omega)]; exact (g188 k).1, by rw [mj_u_pt (by omega)]; exact (g188 k).2⟩
        have g30 : (mj_u g 2 5 (g 2 5 * 1664525 + 1013904223)) 2 0 = nI n := by rw [mj_u_pt (by omega)]; exact g0
        have g31 : (mj_u g 2 5 (g 2 5 * 1664525 + 1013904223)) 2 1 = nI l := by rw [mj_u_pt (by omega)]; exact g1
        have g3b : ∃ b, b ≤ 150 ∧ (mj_u g 2 5 (g 2 5 * 1664525 + 1013904223)) 2 6 = nI b := by rw [mj_u_pt (by omega)]; exact gb
        have hcl2 : ∀ u : Value, mj_den mj_P E (d + 5) 2 62 [.ref 188, .ref 1, .ref 2, .int (nI k), .int (nI S), .int wd, .int (if 2 = 2 then 0 else 1), .int (nI (mj_pc 12 S)), .int (nI acc), .int (nI i), u] [.int (nI X)] (mj_hw w c g hl) = (if nI X ≤ mj_rem (mj_ush (g 2 5 * 1664525 + 1013904223) 8) (nI 1000) then mj_den mj_P E (d + 5) 2 126 [.ref 188, .ref 1, .ref 2, .int (nI k), .int (nI S), .int wd, .int (if 2 = 2 then 0 else 1), .int (nI (mj_pc 12 S)), .int (nI acc), .int (nI i), .int (nI X)] [] (mj_hw w c (mj_u g 2 5 (g 2 5 * 1664525 + 1013904223)) hl) else mj_den mj_P E (d + 5) 2 92 [.ref 188, .ref 1, .ref 2, .int (nI k), .int (nI S), .int wd, .int (if 2 = 2 then 0 else 1), .int (nI (mj_pc 12 S)), .int (nI acc), .int (nI i), .int (nI X)] [] (mj_hw w c (mj_u g 2 5 (g 2 5 * 1664525 + 1013904223)) hl)) := fun u => by
          rw [g2_62 hr, if_pos (show (if (2 : Nat) = 2 then (0 : Int32) else 1) = 0 from rfl), g2_80 hr, show (1000 : Int32) = nI 1000 from rfl, s_draw74 (d := d + 4) hr, mj_bi_some, g2_87 hr]
        have hmo2 : ∀ f : mj_HI, f 205 5 = 0 → f 206 1 = g 2 5 → mj_dc mj_P E (d' + 6) 222 [.ref 205, .int (nI X)] (mj_hw w c f hl) = some (some (.int (if nI X ≤ mj_rem (mj_ush (g 2 5 * 1664525 + 1013904223) 8) (nI 1000) then 0 else 1)), mj_hw w c (mj_u f 206 1 (g 2 5 * 1664525 + 1013904223)) hl) := fun f f5 f1 => by
          rw [e222, q222_0, if_pos f5, q222_24, show (1000 : Int32) = nI 1000 from rfl, s_draw163 (d' := d' + 4), mj_bi_some, q222_31, f1]
          by_cases hd : nI X ≤ mj_rem (mj_ush (g 2 5 * 1664525 + 1013904223) 8) (nI 1000)
          · rw [if_pos hd, if_pos hd, q222_39, q222_40, if_pos (Or.inl rfl)]
          · rw [if_neg hd, if_neg hd, q222_40, if_pos (Or.inr rfl)]
        have hmo3 : ∀ hm, hm 205 5 = (if 2 = 2 then 0 else 1) → hm 205 6 = nI n → wl_M hm ops args kd L len cb cw cc → au 2 n l hx hm → ∃ f, au_O hm f ∧ au 2 n l (mj_u g 2 5 (g 2 5 * 1664525 + 1013904223)) f ∧ f 205 5 = (if 2 = 2 then 0 else 1) ∧ f 205 6 = nI n ∧ wl_M f ops args kd L len cb cw cc ∧ mj_den mj_P E (d' + 6) 223 13 [.ref 205, .int (nI k), .int (nI S), .int (nI T), .int wd, .int (nI acc), .int (nI i)] [] (mj_hw w c hm hl) = (if nI X ≤ mj_rem (mj_ush (g 2 5 * 1664525 + 1013904223) 8) (nI 1000) then mj_den mj_P E (d' + 6) 223 97 [.ref 205, .int (nI k), .int (nI S), .int (nI T), .int wd, .int (nI acc), .int (nI i)] [] (mj_hw w c f hl) else mj_den mj_P E (d' + 6) 223 57 [.ref 205, .int (nI k), .int (nI S), .int (nI T), .int wd, .int (nI acc), .int (nI i)] [] (mj_hw w c f hl)) := fun hm m5 m6 qM q => by
          obtain ⟨f, p1, p2, p3⟩ := hmod hm m6 qM q
          have qf : au 2 n l g f := au_c q (fun a k z => pg _ _ (by omega) (by omega)) (fun a k z => p2 _ _ (by omega) (by omega))
          have f5 : f 205 5 = 0 := by rw [p2 _ _ (by omega) (by omega)]; exact m5
          refine ⟨mj_u f 206 1 (g 2 5 * 1664525 + 1013904223), au_O_t p1 (fun a k z1 z2 z3 z4 z5 => mj_u_pt (by omega)), au_draw (Or.inl rfl) qf _, by rw [mj_u_pt (by omega)]; exact f5, by rw [mj_u_pt (by omega), p2 _ _ (by omega) (by omega)]; exact m6, wl_M_congr qM (fun a k z1 z2 => by rw [mj_u_pt (by omega), p2 _ _ (by omega) (by omega)]), ?_⟩
          rw [p3, q223_48, hmo2 f f5 qf.1.1.2.2.2.2.2.1.symm, mj_bi_some, q223_51]
          by_cases hd : nI X ≤ mj_rem (mj_ush (g 2 5 * 1664525 + 1013904223) 8) (nI 1000)
          · rw [if_pos hd, if_pos hd, if_neg (by decide)]
          · rw [if_neg hd, if_neg hd, if_pos (by decide)]
        by_cases hd : nI X ≤ mj_rem (mj_ush (g 2 5 * 1664525 + 1013904223) 8) (nI 1000)
        · obtain ⟨hx', acc', e1, e2, e3, e4, e5, e6, e7, e8, e9⟩ := skip _ (.int (nI X)) g3X g3188 g30 g31 g3b acc (by omega) hsub1
          refine ⟨hx', acc', ?_, e2, e3, e4, e5, e6, e7, e8, fun hm m5 m6 qM q => ?_⟩
          · rw [hcls, hcl2, if_pos hd]; exact e1
          · obtain ⟨f, p1, p2, p3, p4, p5, p6⟩ := hmo3 hm m5 m6 qM q
            obtain ⟨hm', f1, f2, f3⟩ := e9 f p3 p4 p5 p2
            exact ⟨hm', by rw [p6, if_pos hd]; exact f1, au_O_t p1 f2, f3⟩
        · obtain ⟨g2, b1, b2, b3, b4, b5, b6, b7⟩ := addl _ (.int (nI X)) g3X g3188 g30 g31 g3b
          obtain ⟨hx', acc', e1, e2, e3, e4, e5, e6, e7, e8, e9⟩ := skip g2 (.int (nI X)) b2 b3 b4 b5 b6 (acc ||| 2 ^ i) hor hors
          refine ⟨hx', acc', ?_, e2, e3, e4, e5, e6, e7, e8, fun hm m5 m6 qM q => ?_⟩
          · rw [hcls, hcl2, if_neg hd, b1]; exact e1
          · obtain ⟨f, p1, p2, p3, p4, p5, p6⟩ := hmo3 hm m5 m6 qM q
            obtain ⟨f2, c1, c2, c3⟩ := b7 f p3 p2
            obtain ⟨hm', f1, f3, f4⟩ := e9 f2 (by rw [c2 _ _ (by omega) (by omega) (by omega) (by omega) (by omega)]; exact p3) (by rw [c2 _ _ (by omega) (by omega) (by omega) (by omega) (by omega)]; exact p4) (wl_M_congr p5 (fun a k z1 z2 => c2 _ _ (by omega) (by omega) (by omega) (by omega) (by omega))) c3
            exact ⟨hm', by rw [p6, if_neg hd, c1]; exact f1, au_O_t p1 (au_O_t c2 f3), f4⟩
      · have hcl2 : ∀ u : Value, mj_den mj_P E (d + 5) 2 62 [.ref 188, .ref 1, .ref 177, .int (nI k), .int (nI S), .int wd, .int (if 177 = 2 then 0 else 1), .int (nI (mj_pc 12 S)), .int (nI acc), .int (nI i), u] [.int (nI X)] (mj_hw w c g hl) = (if X < 500 then mj_den mj_P E (d + 5) 2 126 [.ref 188, .ref 1, .ref 177, .int (nI k), .int (nI S), .int wd, .int (if 177 = 2 then 0 else 1), .int (nI (mj_pc 12 S)), .int (nI acc), .int (nI i), .int (nI X)] [] (mj_hw w c g hl) else mj_den mj_P E (d + 5) 2 92 [.ref 188, .ref 1, .ref 177, .int (nI k), .int (nI S), .int wd, .int (if 177 = 2 then 0 else 1), .int (nI (mj_pc 12 S)), .int (nI acc), .int (nI i), .int (nI X)] [] (mj_hw w c g hl)) := fun u => by
          rw [g2_62 hr, if_neg (show ¬ (if (177 : Nat) = 2 then (0 : Int32) else 1) = 0 by decide), show (500 : Int32) = nI 500 from rfl]
          simp (disch := omega) only [mj_nIlt]
        have hmo3 : ∀ hm, hm 205 5 = (if 177 = 2 then 0 else 1) → hm 205 6 = nI n → wl_M hm ops args kd L len cb cw cc → au 177 n l hx hm → ∃ f, au_O hm f ∧ au 177 n l g f ∧ f 205 5 = (if 177 = 2 then 0 else 1) ∧ f 205 6 = nI n ∧ wl_M f ops args kd L len cb cw cc ∧ mj_den mj_P E (d' + 6) 223 13 [.ref 205, .int (nI k), .int (nI S), .int (nI T), .int wd, .int (nI acc), .int (nI i)] [] (mj_hw w c hm hl) = (if X < 500 then mj_den mj_P E (d' + 6) 223 97 [.ref 205, .int (nI k), .int (nI S), .int (nI T), .int wd, .int (nI acc), .int (nI i)] [] (mj_hw w c f hl) else mj_den mj_P E (d' + 6) 223 57 [.ref 205, .int (nI k), .int (nI S), .int (nI T), .int wd, .int (nI acc), .int (nI i)] [] (mj_hw w c f hl)) := fun hm m5 m6 qM q => by
          obtain ⟨f, p1, p2, p3⟩ := hmod hm m6 qM q
          have f5 : f 205 5 = 1 := by rw [p2 _ _ (by omega) (by omega)]; exact m5
          refine ⟨f, p1, au_c q (fun a k z => pg _ _ (by omega) (by omega)) (fun a k z => p2 _ _ (by omega) (by omega)), f5, by rw [p2 _ _ (by omega) (by omega)]; exact m6, wl_M_congr qM (fun a k z1 z2 => p2 _ _ (by omega) (by omega)), ?_⟩
          have h2X : nI 2 * nI X = nI (2 * X) := mj_nImul 2 X
          have f5' : ¬ f 205 5 = 0 := by rw [f5]; decide
          rw [p3, q223_48, e222, q222_0, if_neg f5', show (2 : Int32) = nI 2 from rfl, show (1000 : Int32) = nI 1000 from rfl, h2X]
          by_cases hd : X < 500
          · rw [if_pos (by rw [mj_nIlt (by omega) (by omega)]; omega), q222_20, q222_40, if_pos (Or.inl rfl), mj_bi_some, q223_51, if_neg (by decide), if_pos hd]
          · rw [if_neg (by rw [mj_nIlt (by omega) (by omega)]; omega), q222_40, if_pos (Or.inr rfl), mj_bi_some, q223_51, if_pos (by decide), if_neg hd]
        by_cases hd : X < 500
        · obtain ⟨hx', acc', e1, e2, e3, e4, e5, e6, e7, e8, e9⟩ := skip _ (.int (nI X)) gX g188 g0 g1 gb acc (by omega) hsub1
          refine ⟨hx', acc', ?_, e2, e3, e4, e5, e6, e7, e8, fun hm m5 m6 qM q => ?_⟩
          · rw [hcls, hcl2, if_pos hd]; exact e1
          · obtain ⟨f, p1, p2, p3, p4, p5, p6⟩ := hmo3 hm m5 m6 qM q
            obtain ⟨hm', f1, f2, f3⟩ := e9 f p3 p4 p5 p2
            exact ⟨hm', by rw [p6, if_pos hd]; exact f1, au_O_t p1 f2, f3⟩
        · obtain ⟨g2, b1, b2, b3, b4, b5, b6, b7⟩ := addl _ (.int (nI X)) gX g188 g0 g1 gb
          obtain ⟨hx', acc', e1, e2, e3, e4, e5, e6, e7, e8, e9⟩ := skip g2 (.int (nI X)) b2 b3 b4 b5 b6 (acc ||| 2 ^ i) hor hors
          refine ⟨hx', acc', ?_, e2, e3, e4, e5, e6, e7, e8, fun hm m5 m6 qM q => ?_⟩
          · rw [hcls, hcl2, if_neg hd, b1]; exact e1
          · obtain ⟨f, p1, p2, p3, p4, p5, p6⟩ := hmo3 hm m5 m6 qM q
            obtain ⟨f2, c1, c2, c3⟩ := b7 f p3 p2
            obtain ⟨hm', f1, f3, f4⟩ := e9 f2 (by rw [c2 _ _ (by omega) (by omega) (by omega) (by omega) (by omega)]; exact p3) (by rw [c2 _ _ (by omega) (by omega) (by omega) (by omega) (by omega)]; exact p4) (wl_M_congr p5 (fun a k z1 z2 => c2 _ _ (by omega) (by omega) (by omega) (by omega) (by omega))) c3
            exact ⟨hm', by rw [p6, if_neg hd, c1]; exact f1, au_O_t p1 (au_O_t c2 f3), f4⟩
    · obtain ⟨hx', acc', e1, e2, e3, e4, e5, e6, e7, e8, e9⟩ := skip hx u9 hXX (fun _ => ⟨rfl, rfl⟩) h0 h1 hb acc (by omega) (fun j h => Or.inl h)
      refine ⟨hx', acc', ?_, e2, e3, e4, e5, e6, e7, e8, fun hm m5 m6 qM q => ?_⟩
      · rw [g2_13 hr, h0, if_neg hle, show (10 : Int32) = nI 10 from rfl, if_neg hle2, s_hX (d := d + 4) (by omega) (by omega), mj_bi_some, g2_36 hr]
        rw [show mj_b (S.testBit i = true) = 0 from if_neg hbit, if_neg (by decide)]
        exact e1
      · obtain ⟨hm', f1, f2, f3⟩ := e9 hm m5 m6 qM q
        refine ⟨hm', ?_, f2, f3⟩
        rw [q223_13, m6, if_neg hle, s_hM (d := d' + 5) (by omega) (by omega), mj_bi_some, q223_29]
        rw [show mj_b (S.testBit i = true) = 0 from if_neg hbit, if_pos (by decide)]
        exact f1
end MJ81
