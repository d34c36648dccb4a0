/-! conditions: the reference's waiting ones as a list, the top first -/
def stk : List Nat → mj_HI → Prop
  | [], _ => True
  | x :: S, h => h 223 S.length = nI x ∧ stk S h
def tpn (x : Nat) (S : List Nat) : Prop := ∀ z R, S = z :: R → z ≠ x
def pst (S : List Nat) (o : Nat) (h : mj_HI) : Prop := h 205 31 = nI S.length ∧ h 205 29 = nI o ∧ stk S h ∧ ∀ z, z ∈ S → z < 13
def fC (h g : mj_HI) : Prop := ∀ a k, ¬ (a = 205 ∧ ((15 ≤ k ∧ k ≤ 18) ∨ k = 28 ∨ k = 29 ∨ k = 31 ∨ k = 32 ∨ k = 33)) → ¬ ((a = 221 ∨ a = 222) ∧ 800 ≤ k) → a ≠ 223 → g a k = h a k
theorem fC_r (h : mj_HI) : fC h h := fun _ _ _ _ _ => rfl
theorem fC_t {a b c : mj_HI} (p : fC a b) (q : fC b c) : fC a c := fun x k h1 h2 h3 => (q x k h1 h2 h3).trans (p x k h1 h2 h3)
theorem fS_C {a b : mj_HI} (p : fS a b) : fC a b := fun x k h1 h2 _ => p x k (by omega) h2
theorem stk_c {S : List Nat} {h g : mj_HI} (e : ∀ k, k < S.length → g 223 k = h 223 k) (q : stk S h) : stk S g := by
  induction S with
  | nil => trivial
  | cons x S ih => exact ⟨by rw [e _ (by show S.length < S.length + 1; omega)]; exact q.1, ih (fun k hk => e k (by show k < S.length + 1; omega)) q.2⟩
theorem pst_c {S : List Nat} {o : Nat} {h g : mj_HI} (q : pst S o h) (e1 : g 205 31 = h 205 31) (e2 : g 205 29 = h 205 29) (e3 : ∀ k, g 223 k = h 223 k) : pst S o g := ⟨by rw [e1]; exact q.1, by rw [e2]; exact q.2.1, stk_c (fun k _ => e3 k) q.2.2.1, q.2.2.2⟩
theorem pst_S {S : List Nat} {o : Nat} {h g : mj_HI} (q : pst S o h) (e : fS h g) : pst S o g := pst_c q (e _ _ (by omega) (by omega)) (e _ _ (by omega) (by omega)) (fun k => e _ _ (by omega) (by omega))
def FC (BG : Nat → Nat) (hm hm' : mj_HI) (f j : Nat) : Prop := fC hm hm' ∧ hm' 205 32 = nI f ∧ hm' 205 33 = nI (BG j)
theorem FC_t {BG : Nat → Nat} {h0 h hm : mj_HI} {f j : Nat} (p : fC h0 h) (q : FC BG h hm f j) : FC BG h0 hm f j := ⟨fC_t p q.1, q.2.1, q.2.2⟩
theorem FM_C {BG : Nat → Nat} {h hm : mj_HI} {f j : Nat} (q : FM BG h hm f j) : FC BG h hm f j := ⟨fS_C q.1, q.2.1, q.2.2⟩
def RS (y : Nat → Nat) (t : Nat) (TY TV BG : Nat → Nat) (i L : Nat) (g : mj_HI) (S : List Nat) (o : Nat) (hm : mj_HI) : Prop := MS 3 y t TY TV BG i L g hm ∧ pst S o hm
section MJZ13
variable {E : mj_E} {d d' w' c : Nat} {hl : Nat → Nat → Int64} {y TY TV BG : Nat → Nat} {t m : Nat}
theorem MS_g {i L : Nat} {g g' hm : mj_HI} (q : MS 3 y t TY TV BG i L g hm) (b : bX g g' L) : MS 3 y t TY TV BG i L g' hm := ⟨q.1, q.2.1, cdr_c q.2.2 b (fun _ _ _ => rfl) rfl⟩
theorem MS_S {i L : Nat} {g hm hm' : mj_HI} (q : MS 3 y t TY TV BG i L g hm) (e : ∀ a k, a ≠ 223 → ¬ (a = 205 ∧ (k = 29 ∨ k = 31)) → hm' a k = hm a k) : MS 3 y t TY TV BG i L g hm' := ⟨txM_c q.1 (fun a k z => e a k (by omega) (by omega)), txB_c q.2.1 (fun k z1 z2 => e _ _ (by omega) (by omega)), cdr_c q.2.2 (fun _ _ => ⟨rfl, rfl⟩) (fun a k z => e a k (by omega) (by omega)) (e _ _ (by omega) (by omega))⟩
/-- one more waits -/
theorem s_waitM {i L o x : Nat} {g hm : mj_HI} {S : List Nat} (q : RS y t TY TV BG i L g S o hm) (hx : x < 13) (hS : S.length < 40) : ∃ hm' : mj_HI, mj_dc mj_P E (d + 1) 192 [.ref 205, .int (nI x)] (mj_hw w' c hm hl) = some (none, mj_hw w' c hm' hl) ∧ RS y t TY TV BG i L g (x :: S) o hm' ∧ fC hm hm' := by
  obtain ⟨q1, q2, q3, q4, q5⟩ := q
  have n2 : (0 ≤ nI S.length ∧ (nI S.length).toNatClampNeg < 40) := ⟨by rw [mj_nI0 (by omega)]; trivial, by rw [mj_nIc (by omega)]; omega⟩
  refine ⟨mj_u (mj_u hm 223 S.length (nI x)) 205 31 (nI (S.length + 1)), ?_, ⟨MS_S q1 (fun a k z1 z2 => by rw [mj_u_pt (by omega), mj_u_pt (by omega)]), mj_u_eq, by rw [mj_u_pt (by omega), mj_u_pt (by omega)]; exact q3, ⟨by rw [mj_u_pt (by omega), mj_u_eq], stk_c (fun k hk => by rw [mj_u_pt (by omega), mj_u_pt (by omega)]) q4⟩, fun z hz => ?_⟩, fun a k z1 z2 z3 => by rw [mj_u_pt (by omega), mj_u_pt (by omega)]⟩
  · rw [e192, q192_0, q2, if_pos n2, mj_nIc (by omega), mj_nIs]
  · rcases List.mem_cons.mp hz with z' | z'
    · rw [z']; exact hx
    · exact q5 z z'
/-- none of that sort waits on top -/
theorem s_set0 {i L o x : Nat} {g hm : mj_HI} {S : List Nat} (q : RS y t TY TV BG i L g S o hm) (hx : x < 13) (hS : S.length ≤ 40) (ht : tpn x S) : mj_den mj_P E (d + 1) 193 0 [.ref 205, .int (nI x)] [] (mj_hw w' c hm hl) = some (none, mj_hw w' c hm hl) := by
  obtain ⟨q1, q2, q3, q4, q5⟩ := q
  rw [q193_0, q2]
  cases S with
  | nil => rw [if_pos (show nI ([] : List Nat).length ≤ 0 by decide), q193_57]
  | cons z R =>
    have hl' : (z :: R).length = R.length + 1 := rfl
    rw [hl'] at hS
    have n1 : ¬ nI (z :: R).length ≤ (0 : Int32) := by rw [hl', show (0 : Int32) = nI 0 from rfl, mj_nIle (by omega) (by omega)]; omega
    have e1 : nI (z :: R).length - 1 = nI R.length := by rw [hl', mj_nIp (by omega)]; rfl
    have n2 : (0 ≤ nI R.length ∧ (nI R.length).toNatClampNeg < 40) := ⟨by rw [mj_nI0 (by omega)]; trivial, by rw [mj_nIc (by omega)]; omega⟩
    have hz := q5 z (List.mem_cons_self)
    have n3 : ¬ nI z = nI x := by rw [mj_nIeq (by omega) (by omega)]; exact ht z R rfl
    rw [if_neg n1, e1, if_pos n2, mj_nIc (by omega), q4.1, if_pos n3, q193_57]
/-- one of that sort leaves the top -/
theorem s_setS {i L o x : Nat} {g g' hm : mj_HI} {S : List Nat} {op : Int32} (q : RS y t TY TV BG i L g (x :: S) o hm) (hx : x < 13) (hS : S.length < 40) (hC : iv_ph (g 165) L < 400) (hb : bX g g' L) (h1 : g' 165 L = op) (hop : (x = 9 ∧ op = 18 ∧ 1 ≤ o) ∨ (x = 10 ∧ op = 19) ∨ (x = 11 ∧ op = 20)) : ∃ hm' : mj_HI, mj_den mj_P E (d + 1) 193 0 [.ref 205, .int (nI x)] [] (mj_hw w' c hm hl) = mj_den mj_P E (d + 1) 193 0 [.ref 205, .int (nI x)] [] (mj_hw w' c hm' hl) ∧ RS y t TY TV BG i (L + 1) g' S (if x = 9 then o - 1 else o) hm' ∧ fC hm hm' := by
  obtain ⟨q1, q2, q3, q4, q5⟩ := q
  have hl' : (x :: S).length = S.length + 1 := rfl
  have n1 : ¬ nI (x :: S).length ≤ (0 : Int32) := by rw [hl', show (0 : Int32) = nI 0 from rfl, mj_nIle (by omega) (by omega)]; omega
  have e1 : nI (x :: S).length - 1 = nI S.length := by rw [hl', mj_nIp (by omega)]; rfl
  have n2 : (0 ≤ nI S.length ∧ (nI S.length).toNatClampNeg < 40) := ⟨by rw [mj_nI0 (by omega)]; trivial, by rw [mj_nIc (by omega)]; omega⟩
  obtain ⟨h1', hh1⟩ : ∃ h1', h1' = mj_u hm 205 31 (nI S.length) := ⟨_, rfl⟩
  have m1 : MS 3 y t TY TV BG i L g h1' := MS_S q1 (fun a k z1 z2 => by rw [hh1, mj_u_pt (by omega)])
  have op14 : ¬ op = 14 := by rcases hop with ⟨_, z, _⟩ | ⟨_, z⟩ | ⟨_, z⟩ <;> (rw [z]; decide)
  obtain ⟨h2, em, m2, fs2, fr2⟩ := p_emM (E := E) (d := d) (w' := w') (c := c) (hl := hl) (g' := g') (v1 := nI x) (v2 := 0) m1 hC hb (by rw [h1]; exact op14) (fun mo ma z1 z2 => by
    rw [h1]
    rcases hop with ⟨zx, z, _⟩ | ⟨zx, z⟩ | ⟨zx, z⟩
    · exact Or.inr (Or.inr (Or.inr (Or.inr (Or.inr (Or.inr (Or.inr (Or.inr (Or.inr (Or.inl ⟨z, by rw [z1, zx]; rfl⟩)))))))))
    · exact Or.inr (Or.inr (Or.inr (Or.inr (Or.inr (Or.inr (Or.inr (Or.inr (Or.inr (Or.inr (Or.inl ⟨z, by rw [z1, zx]; rfl⟩))))))))))
    · exact Or.inr (Or.inr (Or.inr (Or.inr (Or.inr (Or.inr (Or.inr (Or.inr (Or.inr (Or.inr (Or.inr ⟨z, by rw [z1, zx]; rfl⟩)))))))))))
  have f2 : fC hm h2 := fC_t (fun a k z1 z2 z3 => by rw [hh1, mj_u_pt (by omega)]) (fS_C fs2)
  have p2 : pst S o h2 := ⟨by rw [fs2 _ _ (by omega) (by omega), hh1, mj_u_eq], by rw [fs2 _ _ (by omega) (by omega), hh1, mj_u_pt (by omega)]; exact q3, stk_c (fun k _ => by rw [fs2 _ _ (by omega) (by omega), hh1, mj_u_pt (by omega)]) q4.2, fun z hz => q5 z (List.mem_cons_of_mem _ hz)⟩
  have hgo : mj_den mj_P E (d + 1) 193 0 [.ref 205, .int (nI x)] [] (mj_hw w' c hm hl) = mj_den mj_P E (d + 1) 193 38 [.ref 205, .int (nI x)] [] (mj_hw w' c h2 hl) := by
    rw [q193_0, q2, if_neg n1, e1, if_pos n2, mj_nIc (by omega), q4.1, if_neg (fun z => z rfl), ← hh1, em, mj_bv_some]
  by_cases hx9 : x = 9
  · have ho : 1 ≤ o := by rcases hop with ⟨_, _, z⟩ | ⟨z, _⟩ | ⟨z, _⟩ <;> omega
    refine ⟨mj_u h2 205 29 (nI (o - 1)), ?_, ⟨MS_S m2 (fun a k z1 z2 => by rw [mj_u_pt (by omega)]), by rw [mj_u_pt (by omega)]; exact p2.1, by rw [mj_u_eq, if_pos hx9], stk_c (fun k _ => by rw [mj_u_pt (by omega)]) p2.2.2.1, p2.2.2.2⟩, fC_t f2 (fun a k z1 z2 z3 => by rw [mj_u_pt (by omega)])⟩
    have n9 : ¬ ¬ nI x = 9 := fun z => z (by rw [hx9]; rfl)
    rw [hgo, q193_38, if_neg n9, p2.2.1, mj_nIp ho]
  · refine ⟨h2, ?_, ⟨m2, by rw [if_neg hx9]; exact p2⟩, f2⟩
    have n9 : ¬ nI x = 9 := by rw [show (9 : Int32) = nI 9 from rfl, mj_nIeq (by omega) (by omega)]; exact hx9
    rw [hgo, q193_38, if_pos n9]
/-- all nots leave the top -/
theorem s_setN : ∀ (k : Nat) {i L o : Nat} {g gk hm : mj_HI} {S0 : List Nat}, RS y t TY TV BG i L g (List.replicate k 9 ++ S0) o hm → tpn 9 S0 → k ≤ o → k + S0.length ≤ 40 → iv_ph (g 165) L + k ≤ 400 → bX g gk L → (∀ r, r < k → gk 165 (L + r) = 18) → ∃ hm' : mj_HI, mj_den mj_P E (d + 1) 193 0 [.ref 205, .int 9] [] (mj_hw w' c hm hl) = some (none, mj_hw w' c hm' hl) ∧ RS y t TY TV BG i (L + k) gk S0 (o - k) hm' ∧ fC hm hm' := by
  intro k
  induction k with
  | zero =>
    intro i L o g gk hm S0 q ht ho hS hC hb hg
    refine ⟨hm, s_set0 (x := 9) q (by omega) (by show S0.length ≤ 40; omega) ht, ⟨MS_g q.1 hb, q.2⟩, fC_r hm⟩
  | succ k ih =>
    intro i L o g gk hm S0 q ht ho hS hC hb hg
    have hlen : (List.replicate k 9 ++ S0).length = k + S0.length := by rw [List.length_append, List.length_replicate]
    have q' : RS y t TY TV BG i L g (9 :: (List.replicate k 9 ++ S0)) o hm := q
    obtain ⟨hm1, e1, r1, f1⟩ := s_setS (E := E) (d := d) (w' := w') (c := c) (hl := hl) (g' := gk) (op := 18) q' (by omega) (by rw [hlen]; omega) (by omega) hb (hg 0 (by omega)) (Or.inl ⟨rfl, rfl, by omega⟩)
    rw [if_pos rfl] at r1
    have p1 : iv_ph (gk 165) (L + 1) = iv_ph (g 165) L + 1 := by rw [iv_ph_s, show gk 165 L = 18 from hg 0 (by omega), if_neg (by decide), bX_ph hb (Nat.le_refl _)]
    obtain ⟨hm2, e2, r2, f2⟩ := ih (gk := gk) r1 ht (by omega) (by omega) (by omega) (bX_r gk _) (fun r hr => by rw [show L + 1 + r = L + (r + 1) by omega]; exact hg (r + 1) (by omega))
    refine ⟨hm2, ?_, ?_, fC_t f1 f2⟩
    · have e1' : mj_den mj_P E (d + 1) 193 0 [.ref 205, .int 9] [] (mj_hw w' c hm hl) = mj_den mj_P E (d + 1) 193 0 [.ref 205, .int 9] [] (mj_hw w' c hm1 hl) := e1
      rw [e1', e2]
    · rw [show L + (k + 1) = L + 1 + k by omega, show o - (k + 1) = o - 1 - k by omega]; exact r2
theorem tpn_r {x : Nat} {k : Nat} {S0 : List Nat} (hx : x ≠ 9) (h : k = 0 → tpn x S0) : tpn x (List.replicate k 9 ++ S0) := by
  cases k with
  | zero => exact h rfl
  | succ k => intro z R e; injection e with e1 _; rw [← e1]; exact fun q => hx q.symm
end MJZ13
