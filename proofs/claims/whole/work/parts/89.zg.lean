/-! a line of the law -/
theorem MS_h {w : Nat} {y : Nat → Nat} {t : Nat} {TY TV BG : Nat → Nat} {i L : Nat} {g hm hm' : mj_HI} (q : MS w y t TY TV BG i L g hm) (e : ∀ a k, (a = 205 ∧ ((14 ≤ k ∧ k ≤ 18) ∨ k = 28)) ∨ a = 214 ∨ a = 215 ∨ a = 221 ∨ a = 222 → hm' a k = hm a k) : MS w y t TY TV BG i L g hm' := ⟨txM_c q.1 (fun a k z => e a k (by omega)), txB_c q.2.1 (fun k z1 z2 => e _ _ (by omega)), cdr_c q.2.2 (fun _ _ => ⟨rfl, rfl⟩) (fun a k z => e a k (by omega)) (e _ _ (by omega))⟩
def RW (L : Nat) (f : Nat → Int32) (a1 a2 a3 a4 b1 b2 b3 b4 : Int32) : Prop := a1 = b1 ∧ ∃ cb cw cc, cb ≤ cw ∧ cw ≤ cc ∧ cc ≤ L ∧ a2 = nI cb ∧ a3 = nI cw ∧ a4 = nI cc ∧ b2 = nI (iv_ph f cb) ∧ b3 = nI (iv_ph f cw) ∧ b4 = nI (iv_ph f cc) ∧ iv_tys f cb (cw - cb) [] = some [false] ∧ (cw = cc ∨ iv_tys f cw (cc - cw) [] = some [true])
theorem RW_g {L L' : Nat} {f f' : Nat → Int32} {a1 a2 a3 a4 b1 b2 b3 b4 : Int32} (q : RW L f a1 a2 a3 a4 b1 b2 b3 b4) (hL : L ≤ L') (e : ∀ k, k < L → f' k = f k) : RW L' f' a1 a2 a3 a4 b1 b2 b3 b4 := by
  obtain ⟨q1, cb, cw, cc, p1, p2, p3, p4, p5, p6, p7, p8, p9, p10, p11⟩ := q
  have ph : ∀ x, x ≤ L → iv_ph f' x = iv_ph f x := fun x hx => iv_ph_congr x (fun i hi => e i (by omega))
  refine ⟨q1, cb, cw, cc, p1, p2, by omega, p4, p5, p6, by rw [ph _ (by omega)]; exact p7, by rw [ph _ (by omega)]; exact p8, by rw [ph _ (by omega)]; exact p9, by rw [iv_tys_congr (g := f) cb _ [] (fun k hk => e k (by omega))]; exact p10, ?_⟩
  rcases p11 with z | z
  · exact Or.inl z
  · exact Or.inr (by rw [iv_tys_congr (g := f) cw _ [] (fun k hk => e k (by omega))]; exact z)
def LR (k L : Nat) (g hm : mj_HI) : Prop := hm 205 29 = 0 ∧ ∀ i, i < k → RW L (g 165) (g 161 i) (g 162 i) (g 163 i) (g 164 i) (hm 217 (32 + i)) (hm 218 (32 + i)) (hm 219 (32 + i)) (hm 220 (32 + i))
def fL (h g : mj_HI) : Prop := ∀ a k, ¬ (160 ≤ a ∧ a ≤ 166) → ¬ (a = 159 ∧ (10 ≤ k ∧ k ≤ 13)) → g a k = h a k
def fT (h g : mj_HI) : Prop := ∀ a k, ¬ (160 ≤ a ∧ a ≤ 166) → ¬ (169 ≤ a ∧ a ≤ 172) → ¬ (a = 159 ∧ (10 ≤ k ∧ k ≤ 13)) → g a k = h a k
/-- where they fail, the fault is told too -/
def fV (h g : mj_HI) : Prop := ∀ a k, ¬ (160 ≤ a ∧ a ≤ 166) → ¬ (169 ≤ a ∧ a ≤ 172) → ¬ (a = 159 ∧ (k = 1 ∨ k = 2 ∨ (10 ≤ k ∧ k ≤ 13))) → g a k = h a k
theorem fT_V {a b : mj_HI} (p : fT a b) : fV a b := fun x k h1 h2 h3 => p x k h1 h2 (by omega)
theorem fW_V {a b : mj_HI} (p : fW a b) : fV a b := fun x k h1 h2 h3 => p x k (by omega) (by omega) (by omega) h3
theorem fV_t {a b c : mj_HI} (p : fV a b) (q : fV b c) : fV a c := fun x k h1 h2 h3 => (q x k h1 h2 h3).trans (p x k h1 h2 h3)
theorem fL_T {a b : mj_HI} (p : fL a b) : fT a b := fun x k h1 _ h3 => p x k h1 h3
def gL (h g : mj_HI) : Prop := ∀ a k, ¬ (a = 205 ∧ ((15 ≤ k ∧ k ≤ 18) ∨ k = 28 ∨ k = 29 ∨ k = 31 ∨ k = 32 ∨ k = 33)) → ¬ ((a = 221 ∨ a = 222) ∧ 800 ≤ k) → ¬ (217 ≤ a ∧ a ≤ 220 ∧ 32 ≤ k) → a ≠ 223 → g a k = h a k
theorem fL_t {a b c : mj_HI} (p : fL a b) (q : fL b c) : fL a c := fun x k h1 h2 => (q x k h1 h2).trans (p x k h1 h2)
theorem gL_t {a b c : mj_HI} (p : gL a b) (q : gL b c) : gL a c := fun x k h1 h2 h3 h4 => (q x k h1 h2 h3 h4).trans (p x k h1 h2 h3 h4)
theorem fL_r (a : mj_HI) : fL a a := fun _ _ _ _ => rfl
theorem gL_r (a : mj_HI) : gL a a := fun _ _ _ _ _ _ => rfl
theorem fX_L {a b : mj_HI} (p : fX a b) : fL a b := fun x k h1 h2 => p x k (by omega) (by omega) (by omega) h2
theorem fC_L {a b : mj_HI} (p : fC a b) : gL a b := fun x k h1 h2 h3 h4 => p x k h1 h2 h4
theorem fS_L {a b : mj_HI} (p : fS a b) : gL a b := fC_L (fS_C p)
section MJZ17
variable {E : mj_E} {d d' w' c : Nat} {hl : Nat → Nat → Int64} {y TY TV BG : Nat → Nat} {t m : Nat}
theorem lw_when {j L : Nat} {h : mj_HI} (hG : txG 3 y t m TY TV BG) (hS : XS m TY TV BG j L h) (hcap : iv_ph (h 165) L ≤ j) (k v2 : Int32) :
    (∃ f j' g, mj_den mj_P E (d + 30) 61 63 [.ref 159, .int k] [.int (if TY j = 2 ∧ TV j = 3 then 1 else 0)] (mj_hw w' c h hl) = some (some (.int 0), mj_hw w' c g hl) ∧ FX BG h g L f j' ∧ ∀ hm, MS 3 y t TY TV BG j L h hm → hm 205 29 = 0 → ∃ hm', mj_den mj_P E (d' + 9) 196 75 [.ref 205, .int k, .int v2] [.int (if TY j = 2 ∧ TV j = 3 then 1 else 0)] (mj_hw w' c hm hl) = some (some (.int (-1)), mj_hw w' c hm' hl) ∧ FC BG hm hm' f j') ∨
    (∃ j' L' g, mj_den mj_P E (d + 30) 61 63 [.ref 159, .int k] [.int (if TY j = 2 ∧ TV j = 3 then 1 else 0)] (mj_hw w' c h hl) = mj_den mj_P E (d + 30) 61 81 [.ref 159, .int k] [] (mj_hw w' c g hl) ∧ fX h g ∧ bX h g L ∧ XS m TY TV BG j' L' g ∧ j ≤ j' ∧ L ≤ L' ∧ iv_ph (g 165) L' ≤ j' ∧ (L = L' ∨ iv_tys (g 165) L (L' - L) [] = some [true]) ∧ ∀ hm, MS 3 y t TY TV BG j L h hm → hm 205 29 = 0 → ∃ hm', mj_den mj_P E (d' + 9) 196 75 [.ref 205, .int k, .int v2] [.int (if TY j = 2 ∧ TV j = 3 then 1 else 0)] (mj_hw w' c hm hl) = mj_den mj_P E (d' + 9) 196 92 [.ref 205, .int k, .int v2] [] (mj_hw w' c hm' hl) ∧ MS 3 y t TY TV BG j' L' g hm' ∧ hm' 205 29 = 0 ∧ fC hm hm') := by
  obtain ⟨_, t400, mt, _, hnz, hmz, htv⟩ := id hG
  have hjm := hS.2.2.1
  by_cases hw : TY j = 2 ∧ TV j = 3
  · rw [if_pos hw]
    have hjlt : j < m := by
      rcases Nat.lt_or_ge j m with z | z
      · exact z
      · have hz : TY j = 0 := by rw [show j = m by omega]; exact hmz
        omega
    obtain ⟨h1, e1, S1, f1, fr1⟩ := p_stX (E := E) (d := d + 29) (w' := w') (c := c) (hl := hl) hG hS hjlt
    have b1 : bX h h1 L := fun k _ => ⟨fr1 _ _ (by omega), fr1 _ _ (by omega)⟩
    have ph1 : iv_ph (h1 165) L = iv_ph (h 165) L := bX_ph b1 (Nat.le_refl _)
    have hcl : mj_den mj_P E (d + 30) 61 63 [.ref 159, .int k] [.int 1] (mj_hw w' c h hl) = mj_bi (mj_dc mj_P E (d + 30) 62 [.ref 159, .int 0, .int 0] (mj_hw w' c h1 hl)) (fun x1 h1 => mj_den mj_P E (d + 30) 61 76 [.ref 159, .int k] [.int x1] h1) := by
      rw [q61_63, if_neg (by decide), e1, mj_bv_some, q61_70]
    have hrf : ∀ hm, MS 3 y t TY TV BG j L h hm → hm 205 29 = 0 → ∃ hm1, mj_den mj_P E (d' + 9) 196 75 [.ref 205, .int k, .int v2] [.int 1] (mj_hw w' c hm hl) = mj_bi (mj_den mj_P E (d' + 8) 194 9 [.ref 205, .int (nI 0), .int 1, .float 0] [] (mj_hw w' c hm1 hl)) (fun x1 h1 => mj_den mj_P E (d' + 9) 196 86 [.ref 205, .int k, .int v2] [.int x1] h1) ∧ RS y t TY TV BG (j + 1) L h1 [] 0 hm1 ∧ fC hm hm1 := fun hm q h29 => by
      obtain ⟨hm1, r1, r2, r3, r4⟩ := p_stM (E := E) (d := d' + 5) (w' := w') (c := c) (hl := hl) hG q hjlt
      have r1' : mj_dc mj_P E (d' + 9) 182 [.ref 205] (mj_hw w' c hm hl) = some (none, mj_hw w' c hm1 hl) := r1
      refine ⟨mj_u hm1 205 31 0, ?_, ⟨MS_g (MS_h r2 (fun a k z => by rw [mj_u_pt (by omega)])) b1, mj_u_eq, by rw [mj_u_pt (by omega), r4 _ _ (by omega)]; exact h29, trivial, fun z hz => absurd hz (List.not_mem_nil)⟩, fC_t (fS_C r3) (fun a k z1 z2 z3 => by rw [mj_u_pt (by omega)])⟩
      rw [g196_75, if_neg (by decide), r1', mj_bv_some, g196_82, e194, g194_0]; rfl
    rcases (cnd_all (E := E) (d' := d') (w' := w') (c := c) (hl := hl) hG 8 0 rfl).2 d (j + 1) L 0 h1 S1 (by omega) with ⟨f, j', g, o1, o2, o3⟩ | ⟨j', L', g, o1, o2, o3, o4, o5, o6, o7, o8, o9⟩
    · have o1' : mj_dc mj_P E (d + 30) 62 [.ref 159, .int 0, .int 0] (mj_hw w' c h1 hl) = some (some (.int 0), mj_hw w' c g hl) := o1
      refine Or.inl ⟨f, j', g, ?_, FX_t f1 b1 (Nat.le_refl _) o2, fun hm q h29 => ?_⟩
      · rw [hcl, o1', mj_bi_some, q61_76, if_neg (fun z => z rfl), if_pos (Or.inl rfl)]
      · obtain ⟨hm1, r1, r2, r3⟩ := hrf hm q h29
        obtain ⟨hm2, r4, r5⟩ := o3 hm1 [] 0 (.float 0) r2 (by show 0 ≤ _; omega) (by omega) ⟨fun z R e => by injection e, fun z R e => by injection e, fun z R e => by injection e⟩
        exact ⟨hm2, by rw [r1, r4, mj_bi_some, g196_86, if_neg (fun z => z rfl)], FC_t r3 r5⟩
    · have o1' : mj_dc mj_P E (d + 30) 62 [.ref 159, .int 0, .int 0] (mj_hw w' c h1 hl) = some (some (.int 1), mj_hw w' c g hl) := o1
      refine Or.inr ⟨j', L', g, ?_, fX_t f1 o2, bX_t b1 o3 (Nat.le_refl _), o4, by omega, o6, by omega, Or.inr (o8 [] (Nat.zero_le _)), fun hm q h29 => ?_⟩
      · rw [hcl, o1', mj_bi_some, q61_76, if_pos (by decide)]
      · obtain ⟨hm1, r1, r2, r3⟩ := hrf hm q h29
        obtain ⟨hm2, u3, r4, r5, r6⟩ := o9 hm1 [] 0 (.float 0) r2 (by show 0 ≤ _; omega) (fun z R e => by injection e) (fun z R e => by injection e) (fun z R e => by injection e) (by omega)
        exact ⟨hm2, by rw [r1, r4, g194_185, if_neg (fun z => z rfl), mj_bi_some, g196_86, if_pos (by decide)], r5.1, r5.2.2.1, fC_t r3 r6⟩
  · rw [if_neg hw]
    refine Or.inr ⟨j, L, h, ?_, fX_r h, bX_r h L, hS, Nat.le_refl _, Nat.le_refl _, hcap, Or.inl rfl, fun hm q h29 => ⟨hm, ?_, q, h29, fC_r hm⟩⟩
    · rw [q61_63, if_pos rfl]
    · rw [g196_75, if_pos rfl]
end MJZ17
