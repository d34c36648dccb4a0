/-! what a parser may change -/
def fW (h g : mj_HI) : Prop := ∀ a k, a ≠ 165 → a ≠ 166 → ¬ (a = 160 ∧ k = 1) → ¬ (a = 159 ∧ (k = 1 ∨ k = 2 ∨ (10 ≤ k ∧ k ≤ 13))) → g a k = h a k
def fX (h g : mj_HI) : Prop := ∀ a k, a ≠ 165 → a ≠ 166 → ¬ (a = 160 ∧ k = 1) → ¬ (a = 159 ∧ (10 ≤ k ∧ k ≤ 13)) → g a k = h a k
theorem fX_W {a b : mj_HI} (p : fX a b) : fW a b := fun x k h1 h2 h3 h4 => p x k h1 h2 h3 (by omega)
theorem fW_t {a b c : mj_HI} (p : fW a b) (q : fW b c) : fW a c := fun x k h1 h2 h3 h4 => (q x k h1 h2 h3 h4).trans (p x k h1 h2 h3 h4)
def fS (h g : mj_HI) : Prop := ∀ a k, ¬ (a = 205 ∧ ((15 ≤ k ∧ k ≤ 18) ∨ k = 28 ∨ k = 32 ∨ k = 33)) → ¬ ((a = 221 ∨ a = 222) ∧ 800 ≤ k) → g a k = h a k
def bX (h g : mj_HI) (L : Nat) : Prop := ∀ k, k < L → g 165 k = h 165 k ∧ g 166 k = h 166 k
theorem fX_r (h : mj_HI) : fX h h := fun _ _ _ _ _ _ => rfl
theorem fS_r (h : mj_HI) : fS h h := fun _ _ _ _ => rfl
theorem bX_r (h : mj_HI) (L : Nat) : bX h h L := fun _ _ => ⟨rfl, rfl⟩
theorem fX_t {a b c : mj_HI} (p : fX a b) (q : fX b c) : fX a c := fun x k h1 h2 h3 h4 => (q x k h1 h2 h3 h4).trans (p x k h1 h2 h3 h4)
theorem fS_t {a b c : mj_HI} (p : fS a b) (q : fS b c) : fS a c := fun x k h1 h2 => (q x k h1 h2).trans (p x k h1 h2)
theorem bX_t {a b c : mj_HI} {L L' : Nat} (p : bX a b L) (q : bX b c L') (hL : L ≤ L') : bX a c L := fun k hk => ⟨(q k (by omega)).1.trans (p k hk).1, (q k (by omega)).2.trans (p k hk).2⟩
theorem bX_ph {h g : mj_HI} {L : Nat} (q : bX h g L) {k : Nat} (hk : k ≤ L) : iv_ph (g 165) k = iv_ph (h 165) k := iv_ph_congr k (fun i hi => (q i (by omega)).1)
/-- the class stands at token i with L codes -/
def XS (m : Nat) (TY TV BG : Nat → Nat) (i L : Nat) (h : mj_HI) : Prop := txC m TY TV BG h ∧ txA TY TV BG i h ∧ i ≤ m ∧ h 160 1 = nI L
/-- and so the reference -/
def MS (w : Nat) (y : Nat → Nat) (t : Nat) (TY TV BG : Nat → Nat) (i L : Nat) (g hm : mj_HI) : Prop := txM t y hm ∧ txB w y t TY TV BG i hm ∧ cdr g hm L
def FX (BG : Nat → Nat) (h g : mj_HI) (L f j : Nat) : Prop := fW h g ∧ bX h g L ∧ g 159 1 = nI f ∧ g 159 2 = nI (BG j)
def FM (BG : Nat → Nat) (hm hm' : mj_HI) (f j : Nat) : Prop := fS hm hm' ∧ hm' 205 32 = nI f ∧ hm' 205 33 = nI (BG j)
theorem XS_c {m : Nat} {TY TV BG : Nat → Nat} {i L : Nat} {h g : mj_HI} (q : XS m TY TV BG i L h) (e : ∀ a k, (a = 159 ∧ 9 ≤ k) ∨ (174 ≤ a ∧ a ≤ 176) ∨ (a = 160 ∧ k = 1) → g a k = h a k) : XS m TY TV BG i L g := ⟨txC_c q.1 (fun a k z => e a k (by omega)), txA_c q.2.1 (fun k z1 z2 => e _ _ (by omega)), q.2.2.1, by rw [e _ _ (by omega)]; exact q.2.2.2⟩
section MJZ9
variable {E : mj_E} {d w w' c : Nat} {hl : Nat → Nat → Int64} {y TY TV BG : Nat → Nat} {t m i L : Nat} {h : mj_HI}
theorem p_stX (hG : txG w y t m TY TV BG) (q : XS m TY TV BG i L h) (hi : i < m) : ∃ g : mj_HI, mj_dc mj_P E (d + 1) 55 [.ref 159] (mj_hw w' c h hl) = some (none, mj_hw w' c g hl) ∧ XS m TY TV BG (i + 1) L g ∧ fX h g ∧ (∀ a k, a ≠ 159 → g a k = h a k) := by
  obtain ⟨c1, c2, c3, c4⟩ := q
  obtain ⟨g, e, a, _, fr⟩ := s_stepX (E := E) (d := d) (w' := w') (c := c) (hl := hl) (j := i + 1) hG c1 (by rw [c2.1, mj_nIs]) (by omega)
  exact ⟨g, e, ⟨txC_c c1 (fun a k z => fr a k (by omega)), a, by omega, by rw [fr _ _ (by omega)]; exact c4⟩, fun a k h1 h2 h3 h4 => fr a k (by omega), fun a k ha => fr a k (by omega)⟩
theorem p_stM {g : mj_HI} (hG : txG w y t m TY TV BG) (q : MS w y t TY TV BG i L g h) (hi : i < m) : ∃ hm : mj_HI, mj_dc mj_P E (d + 4) 182 [.ref 205] (mj_hw w' c h hl) = some (none, mj_hw w' c hm hl) ∧ MS w y t TY TV BG (i + 1) L g hm ∧ fS h hm ∧ (∀ a k, ¬ (a = 205 ∧ 15 ≤ k ∧ k ≤ 18) → hm a k = h a k) := by
  obtain ⟨c1, c2, c3⟩ := q
  obtain ⟨hm, e, a, fr⟩ := s_stepM (E := E) (d := d) (w' := w') (c := c) (hl := hl) (j := i + 1) hG c1 c2.1 (by omega)
  exact ⟨hm, e, ⟨txM_c c1 (fun a k z => fr a k (by omega)), a, cdr_c c3 (fun _ _ => ⟨rfl, rfl⟩) (fun a k z => fr a k (by omega)) (fr _ _ (by omega))⟩, fun a k h1 h2 => fr a k (by omega), fr⟩
theorem p_emX (q : XS m TY TV BG i L h) (hL : L < 400) (v1 v2 : Int32) : ∃ g : mj_HI, mj_dc mj_P E (d + 1) 17 [.ref 160, .int v1, .int v2] (mj_hw w' c h hl) = some (none, mj_hw w' c g hl) ∧ XS m TY TV BG i (L + 1) g ∧ fX h g ∧ bX h g L ∧ g 165 L = v1 ∧ g 166 L = v2 ∧ (∀ k, g 159 k = h 159 k) := by
  refine ⟨_, s_emX hL q.2.2.2 v1 v2, ⟨txC_c q.1 (fun a k z => ?_), txA_c q.2.1 (fun k z1 z2 => ?_), q.2.2.1, mj_u_eq⟩, fun a k h1 h2 h3 h4 => ?_, fun k hk => ⟨?_, ?_⟩, ?_, ?_, fun k => ?_⟩
  · rw [mj_u_pt (by omega), mj_u_pt (by omega), mj_u_pt (by omega)]
  · rw [mj_u_pt (by omega), mj_u_pt (by omega), mj_u_pt (by omega)]
  · rw [mj_u_pt (by omega), mj_u_pt (by omega), mj_u_pt (by omega)]
  · rw [mj_u_pt (by omega), mj_u_pt (by omega), mj_u_pt (by omega)]
  · rw [mj_u_pt (by omega), mj_u_pt (by omega), mj_u_pt (by omega)]
  · rw [mj_u_pt (by omega), mj_u_pt (by omega), mj_u_eq]
  · rw [mj_u_pt (by omega), mj_u_eq]
  · rw [mj_u_pt (by omega), mj_u_pt (by omega), mj_u_pt (by omega)]
/-- one code of the reference, as the class's L-th of g' -/
theorem p_emM {g g' : mj_HI} {v1 v2 : Int32} (q : MS w y t TY TV BG i L g h) (hC : iv_ph (g 165) L < 400) (hb : bX g g' L) (n14 : ¬ g' 165 L = 14) (hcor : ∀ mo ma : Nat → Int32, mo (iv_ph (g 165) L) = v1 → ma (iv_ph (g 165) L) = v2 → iv_cor (g' 165 L) (g' 166 L) mo ma (iv_ph (g 165) L)) : ∃ hm : mj_HI, mj_dc mj_P E (d + 1) 186 [.ref 205, .int v1, .int v2] (mj_hw w' c h hl) = some (none, mj_hw w' c hm hl) ∧ MS w y t TY TV BG i (L + 1) g' hm ∧ fS h hm ∧ (∀ k, k ≠ 28 → hm 205 k = h 205 k) := by
  refine ⟨_, s_emM hC q.2.2.1 v1 v2, ⟨txM_c q.1 (fun a k z => ?_), txB_c q.2.1 (fun k z1 z2 => ?_), cdr_s q.2.2 hb (fun p hp => ⟨?_, ?_⟩) ?_ (hcor _ _ ?_ ?_)⟩, fun a k h1 h2 => ?_, fun k hk => ?_⟩
  · rw [mj_u_pt (by omega), mj_u_pt (by omega), mj_u_pt (by omega)]
  · rw [mj_u_pt (by omega), mj_u_pt (by omega), mj_u_pt (by omega)]
  · rw [mj_u_pt (by omega), mj_u_pt (by omega), mj_u_pt (by omega)]
  · rw [mj_u_pt (by omega), mj_u_pt (by omega), mj_u_pt (by omega)]
  · rw [mj_u_eq, iv_ph_s, if_neg n14, bX_ph hb (Nat.le_refl _), Nat.add_zero]
  · show mj_u _ 205 28 _ 221 (800 + iv_ph (g 165) L) = _
    rw [mj_u_pt (by omega), mj_u_pt (by omega), mj_u_eq]
  · show mj_u _ 205 28 _ 222 (800 + iv_ph (g 165) L) = _
    rw [mj_u_pt (by omega), mj_u_eq]
  · rw [mj_u_pt (by omega), mj_u_pt (by omega), mj_u_pt (by omega)]
  · rw [mj_u_pt (by omega), mj_u_pt (by omega), mj_u_pt (by omega)]
theorem p_wrX {f : Nat} (q : XS m TY TV BG i L h) : ∃ g : mj_HI, mj_dc mj_P E (d + 1) 58 [.ref 159, .int (nI f)] (mj_hw w' c h hl) = some (some (.int 0), mj_hw w' c g hl) ∧ FX BG h g L f i := by
  refine ⟨_, s_wrX q.2.1, fun a k h1 h2 h3 h4 => ?_, fun k hk => ⟨?_, ?_⟩, ?_, mj_u_eq⟩
  · rw [mj_u_pt (by omega), mj_u_pt (by omega)]
  · rw [mj_u_pt (by omega), mj_u_pt (by omega)]
  · rw [mj_u_pt (by omega), mj_u_pt (by omega)]
  · rw [mj_u_pt (by omega), mj_u_eq]
theorem p_erM {g : mj_HI} {f : Nat} (q : MS w y t TY TV BG i L g h) : ∃ hm : mj_HI, mj_dc mj_P E (d + 1) 183 [.ref 205, .int (nI f)] (mj_hw w' c h hl) = some (some (.int (-1)), mj_hw w' c hm hl) ∧ FM BG h hm f i := by
  refine ⟨_, s_erM q.2.1, fun a k h1 h2 => ?_, ?_, mj_u_eq⟩
  · rw [mj_u_pt (by omega), mj_u_pt (by omega)]
  · rw [mj_u_pt (by omega), mj_u_eq]
theorem FX_t {h0 g : mj_HI} {L0 f j : Nat} (p : fX h0 h) (b : bX h0 h L0) (hL : L0 ≤ L) (q : FX BG h g L f j) : FX BG h0 g L0 f j := ⟨fW_t (fX_W p) q.1, bX_t b q.2.1 hL, q.2.2.1, q.2.2.2⟩
theorem FM_t {h0 hm : mj_HI} {f j : Nat} (p : fS h0 h) (q : FM BG h hm f j) : FM BG h0 hm f j := ⟨fS_t p q.1, q.2.1, q.2.2⟩
end MJZ9
theorem ty_op {x : Nat} (hx : x ≤ 10) {ts : List Bool} (h : ts.length < 32) : iv_ty (nI x) ts = some (false :: ts) := by
  unfold iv_ty
  rw [if_pos ⟨by rw [mj_nI0 (by omega)]; trivial, by rw [show (10 : Int32) = nI 10 from rfl, mj_nIle (by omega) (by omega)]; exact hx⟩, if_pos h]
theorem ty_14 (r : List Bool) : iv_ty 14 (false :: r) = some (false :: r) := rfl
theorem ty_13 (r : List Bool) : iv_ty 13 (false :: false :: r) = some (false :: r) := rfl
theorem ty_12 (r : List Bool) : iv_ty 12 (false :: false :: r) = some (false :: r) := rfl
theorem ty_11 (r : List Bool) : iv_ty 11 (false :: false :: r) = some (false :: r) := rfl
theorem ty_15 (r : List Bool) : iv_ty 15 (false :: false :: r) = some (true :: r) := rfl
theorem ty_16 (r : List Bool) : iv_ty 16 (false :: false :: r) = some (true :: r) := rfl
theorem ty_17 (r : List Bool) : iv_ty 17 (false :: false :: r) = some (true :: r) := rfl
theorem ty_18 (r : List Bool) : iv_ty 18 (true :: r) = some (true :: r) := rfl
theorem ty_19 (r : List Bool) : iv_ty 19 (true :: true :: r) = some (true :: r) := rfl
theorem ty_20 (r : List Bool) : iv_ty 20 (true :: true :: r) = some (true :: r) := rfl
/-- the codes from a to b make of every short stack one with an int (a truth) more -/
def tyd (f : Nat → Int32) (a b M : Nat) (k : Bool) : Prop := ∀ ts : List Bool, ts.length ≤ M → iv_tys f a (b - a) ts = some (k :: ts)
theorem tyd_c {f g : Nat → Int32} {a b M : Nat} {k : Bool} (q : tyd f a b M k) (e : ∀ i, a ≤ i → i < b → g i = f i) : tyd g a b M k := fun ts h => by
  rw [← q ts h]
  have : ∀ n, n ≤ b - a → iv_tys g a n ts = iv_tys f a n ts := by
    intro n
    induction n with
    | zero => intro _; rfl
    | succ n ih =>
      intro hn
      show (iv_tys g a n ts).bind (fun us => iv_ty (g (a + n)) us) = (iv_tys f a n ts).bind (fun us => iv_ty (f (a + n)) us)
      rw [ih (by omega), e (a + n) (by omega) (by omega)]
  exact this (b - a) (Nat.le_refl _)
theorem tyd_m {f : Nat → Int32} {a b M M' : Nat} {k : Bool} (q : tyd f a b M k) (h : M' ≤ M) : tyd f a b M' k := fun ts hts => q ts (by omega)
theorem tyd_1 {f : Nat → Int32} {a x : Nat} (hx : x ≤ 10) (h : f a = nI x) : tyd f a (a + 1) 31 false := fun ts hts => by
  rw [show a + 1 - a = 1 by omega, iv_tys_one, h]; exact ty_op hx (by omega)
/-- one code behind -/
theorem tyd_u {f : Nat → Int32} {a b M : Nat} {k k' : Bool} (q : tyd f a b M k) (hab : a ≤ b) (h : ∀ r, iv_ty (f b) (k :: r) = some (k' :: r)) : tyd f a (b + 1) M k' := fun ts hts => by
  rw [show b + 1 - a = (b - a) + 1 by omega, iv_tys_add, q ts hts]
  show iv_tys f (a + (b - a)) 1 (k :: ts) = _
  rw [show a + (b - a) = b by omega, iv_tys_one]; exact h ts
/-- two, and one code that joins them -/
theorem tyd_b {f : Nat → Int32} {a b c M M' : Nat} {k k' : Bool} (q : tyd f a b M k) (q' : tyd f b c M' k) (hab : a ≤ b) (hbc : b ≤ c) (hM : M + 1 ≤ M') (h : ∀ r, iv_ty (f c) (k :: k :: r) = some (k' :: r)) : tyd f a (c + 1) M k' := fun ts hts => by
  rw [show c + 1 - a = (b - a) + ((c - b) + 1) by omega, iv_tys_add, q ts hts]
  show iv_tys f (a + (b - a)) ((c - b) + 1) (k :: ts) = _
  rw [show a + (b - a) = b by omega, iv_tys_add, q' (k :: ts) (by show ts.length + 1 ≤ M'; omega)]
  show iv_tys f (b + (c - b)) 1 (k :: k :: ts) = _
  rw [show b + (c - b) = c by omega, iv_tys_one]; exact h ts
