section MJ89c
variable {E : mj_E} {d d' w c : Nat} {hl : Nat → Nat → Int64}
/-- hold and sells -/
theorem s_auct {r n l L len s p k : Nat} {cb cw cc y f t : Nat → Nat} {ops args kd wds : Nat → Int32} {hx hm0 : mj_HI} (hE : mj_EK E) (hr : mj_Rm w c r) (hr2 : r = 2 ∨ r = 177) (n10 : n ≤ 10) (l12 : l ≤ 12) (hk : k < l) (qC : au_KC n L len s p cb cw cc y f t hx) (ho : hx 18 = ops) (ha : hx 19 = args) (hk' : hx 14 = kd) (hwd : hx 24 = wds) (qM0 : au_KM r n l L len s p cb cw cc y f t ops args kd wds hm0) (q0 : au r n l hx hm0) : ∃ hX : mj_HI, mj_dc mj_P E (d + 7) 1 [.ref 188, .ref 1, .ref r, .int (nI k), .int (if r = 2 then 0 else 1)] (mj_hw w c hx hl) = some (none, mj_hw w c hX hl) ∧ au_X r hx hX ∧ ∀ hm, au_KM r n l L len s p cb cw cc y f t ops args kd wds hm → au r n l hx hm → (r = 2 → hm 206 (45 + k) = 0) → ∃ hm', mj_dc mj_P E (d' + 9) 226 [.ref 205, .int (nI k)] (mj_hw w c hm hl) = some (some (.int (hX 188 0)), mj_hw w c hm' hl) ∧ au_M hm hm' ∧ au r n l hX hm' ∧ (hX 188 0 = -1 ∨ (hm' 205 44 = hX 188 1 ∧ hm' 205 45 = hX 188 2)) := by
  have hb : ∃ b, b ≤ 150 ∧ hx r 6 = nI b := by rw [q0.1.1.2.2.2.2.2.2]; exact q0.1.2.1
  rcases s_hold (E := E) (d := d) (d' := d') (w := w) (c := c) (hl := hl) (k := k) hE hr hr2 n10 l12 hk q0.1.1.1 q0.1.1.2.1 hb qC ho ha hk' hwd with ⟨hX, e1, e2, e3, e4⟩ | ⟨g, A, K, T, S0, e1, e2, e2b, e3, e4, e5, e6, e7, e8, e9, e10, e11⟩
  · refine ⟨hX, e1, fun a k z1 z2 z3 z4 z5 => e3 a k z4, fun hm qM q hu => ⟨hm, ?_, fun _ _ _ _ _ _ _ => rfl, au_c q (fun a k z => e3 _ _ (by omega)) (fun _ _ _ => rfl), Or.inl e2⟩⟩
    rw [e2]; exact e4 hm qM.2.1 q
  · obtain ⟨m0, _, _, j3, _, _⟩ := e11 hm0 qM0 q0
    obtain ⟨P, hP2, hP⟩ := j3.1.2.2.2.2.2.2 K e6
    have hPx : g (r + 3) K = nI P := by rw [(j3.1.2.2.1 K (by omega)).2.2.1]; exact hP
    have gC : ∀ a k, 13 ≤ a → a ≤ 19 → g a k = hx a k := fun a k z1 z2 => e2 a k (by omega) (by omega) (by omega) (by omega) (by omega)
    obtain ⟨hX, X, s1, s2, s3, s4, s5, s6⟩ := s_settle (E := E) (d := d) (d' := d') (w := w) (c := c) (hl := hl) (r := r) (n := n) (l := l) (L := L) (len := len) (s := s) (p := p) (K := K) (k := k) (A := A) (T := T) (P := P) (S0 := S0) (cb := cb) (cw := cw) (cc := cc) (y := y) (f := f) (t := t) (ops := ops) (args := args) (kd := kd) (wds := wds) (hx := g) hE hr hr2 n10 l12 e6 hk e7 e8 e9 e10 e3 e4 hPx hP2 (wl_C_congr qC.1 gC) (by rw [← ho]; exact funext (fun k => gC _ _ (by omega) (by omega))) (by rw [← ha]; exact funext (fun k => gC _ _ (by omega) (by omega))) (by rw [← hk']; exact funext (fun k => gC _ _ (by omega) (by omega)))
    refine ⟨hX, e1 hX s1, au_X_t e2 s2, fun hm qM q hu => ?_⟩
    obtain ⟨m1, a1, a2, a3, a4, a5⟩ := e11 hm qM q
    have hu1 : r = 2 → m1 206 (45 + k) = 0 := fun z => by
      have z1 := (a3.1.2.2.2.2.2.1 z k hk).1
      have z2 := (q.1.2.2.2.2.2.1 z k hk).1
      rw [e2b, z2, hu z] at z1
      rw [← Int32.sub_add_cancel (m1 206 (45 + k)) 1, ← z1]
      decide
    obtain ⟨m2, b1, b2, b3, b4, b5⟩ := s6 m1 (au_KM_c qM a2) a3 hu1 a4 a5
    exact ⟨m2, by rw [a1, s3]; exact b1, au_M_t a2 b2, b3, Or.inr ⟨by rw [b4, s4], by rw [b5, s5]⟩⟩
theorem iv_K {n l : Nat} {h : mj_HI} (q : iv_J n l h h) : ∃ L len s p cb cw cc y f t, au_KC n L len s p cb cw cc y f t h ∧ au_KM 2 n l L len s p cb cw cc y f t (h 18) (h 19) (h 14) (h 24) h := by
  obtain ⟨L, len, cb, cw, cc, qC, qM⟩ := iv_law q
  obtain ⟨s, y, s1, s2, s3, s4, s5, s6⟩ := iv_say q
  obtain ⟨p, f, t, p1, p2, p3, p4, p5⟩ := iv_pinX q
  obtain ⟨n10, l12, mN, mL⟩ := iv_Jn q
  exact ⟨L, len, s, p, cb, cw, cc, y, f, t, ⟨qC, ⟨s1, s2, s4⟩, p1, p2, p3, fun i hi => (p4 i hi).1⟩, ⟨q.2.2.2.2.1, mN, mL, qM, ⟨s3, s5, s6⟩, p5⟩⟩
theorem iv_au {n l : Nat} {h : mj_HI} (q : iv_J n l h h) : au 2 n l h h := ⟨au_R_of (iv_JX q), fun _ => iv_JB q⟩
end MJ89c
