section MJ89c
variable {E : mj_E} {d w c : Nat} {hl : Nat → Nat → Int64}
theorem iv_K {n l : Nat} {h : mj_HI} (q : iv_J n l h h) : ∃ L len s p cb cw cc y f t, au_KC n L len s p cb cw cc y f t h ∧ au_KM 2 n l L len s p cb cw cc y f t (h 18) (h 19) (h 14) (h 24) h := by
  obtain ⟨L, len, cb, cw, cc, qC, qM⟩ := iv_law q
  obtain ⟨s, y, s1, s2, s3, s4, s5, s6⟩ := iv_say q
  obtain ⟨p, f, t, p1, p2, p3, p4, p5⟩ := iv_pinX q
  obtain ⟨n10, l12, mN, mL⟩ := iv_Jn q
  exact ⟨L, len, s, p, cb, cw, cc, y, f, t, ⟨qC, ⟨s1, s2, s4⟩, p1, p2, p3, fun i hi => (p4 i hi).1⟩, ⟨q.2.2.2.2.1, mN, mL, qM, ⟨s3, s5, s6⟩, p5⟩⟩
theorem iv_au {n l : Nat} {h : mj_HI} (q : iv_J n l h h) : au 2 n l h h := ⟨au_R_of (iv_JX q), fun _ => iv_JB q⟩
end MJ89c
