set_option maxHeartbeats 4000000 in
theorem mj_start {s : State} {b L : Nat} {xs : Nat → Int32} (hts : ∀ w ∈ lw_tbl, w.before #[Value.ref b] s = true) (hX : va_X b L xs s s.heap) (hbl : b < s.heap.size) (hL : L ≤ 3072) (hgv : (Jvm.Cond.and given_1 narrow_1).before #[Value.ref b] s = true) :
    ∃ G : mj_G, G.1 = s.heap.size ∧ G.2.1 0 = .ref b ∧ va_K (mj_D G) vwCl (mj_ty G) s ∧ mj_Cst G (mj_Ee L xs) s s.heap ∧ mj_Nst s := by
  have hfl := flat_of_before _ hgv
  have hA : ∀ a : Nat, a < s.heap.size → ¬ (fun q : Nat => s.heap.size ≤ q) a := fun a h => Nat.not_le.mpr h
  have hw : ∀ w ∈ mj_WSG, w.before #[Value.ref b] s = true := fun w h => hts w (List.mem_filter.mp h).1
  obtain ⟨adK, adV, hS, hev⟩ := vk_Sof (args := #[Value.ref b]) (s := s) (N := 5) (tm := mj_tm) (len := mj_bl0) (byt := mj_b0) (A := fun q : Nat => s.heap.size ≤ q) (by decide) (fun i hi => hfl _ (mj_n1 i hi)) (fun i hi => hfl _ (mj_n2 i hi)) (fun i hi => hfl _ (mj_n3 i hi)) (fun i hi => hfl _ (mj_n4 i hi))
    (fun i hi j hj => by
      rcases (show i = 0 ∨ i = 1 ∨ i = 2 ∨ i = 3 ∨ i = 4 by omega) with rfl | rfl | rfl | rfl | rfl
      · exact hfl _ (mj_n5_0 j hj)
      · exact hfl _ (mj_n5_1 j hj)
      · exact hfl _ (mj_n5_2 j hj)
      · exact hfl _ (mj_n5_3 j hj)
      · exact hfl _ (mj_n5_4 j hj))
    (fun i j hi hj hne => by rcases mj_n6 i hi j hj hne with h | h; exact Or.inl (hfl _ h); exact Or.inr (hfl _ h)) hA
  obtain ⟨t1, e1, T1⟩ := va_Tof (args := #[Value.ref b]) (s := s) (N := 5) (f := fun j => .int (([99, 9, 9999, 999, 5] : List Int32).getD j 0)) (A := fun q : Nat => s.heap.size ≤ q) (by decide) (hfl _ mj_n7_SET_MOST.1) (va_eqt (hfl _ mj_n7_SET_MOST.2.1)) (fun j hj => va_eqt (hfl _ (mj_n7_SET_MOST.2.2 j hj))) hA
  obtain ⟨t2, e2, T2⟩ := va_Tof (args := #[Value.ref b]) (s := s) (N := 3) (f := fun j => .int (([1000, 9999, 99] : List Int32).getD j 0)) (A := fun q : Nat => s.heap.size ≤ q) (by decide) (hfl _ mj_n7_TOLD_MOST.1) (va_eqt (hfl _ mj_n7_TOLD_MOST.2.1)) (fun j hj => va_eqt (hfl _ (mj_n7_TOLD_MOST.2.2 j hj))) hA
  have Z1 := va_Zof (A := fun q : Nat => s.heap.size ≤ q) (hts _ (List.mem_of_getElem? (i := 703) (by decide +kernel))) (hts _ (List.mem_of_getElem? (i := 143) (by decide +kernel))) e1 hA
  have Z2 := va_Zof (A := fun q : Nat => s.heap.size ≤ q) (hts _ (List.mem_of_getElem? (i := 768) (by decide +kernel))) (hts _ (List.mem_of_getElem? (i := 143) (by decide +kernel))) e2 hA
  have Z3 := va_Zof (A := fun q : Nat => s.heap.size ≤ q) (hts _ (List.mem_of_getElem? (i := 874) (by decide +kernel))) (hts _ (List.mem_of_getElem? (i := 159) (by decide +kernel))) (va_eqt (hfl _ mj_n8.1)) hA
  have Z4 := va_Zqof (A := fun q : Nat => s.heap.size ≤ q) (hts _ (List.mem_of_getElem? (i := 890) (by decide +kernel))) (hts _ (List.mem_of_getElem? (i := 161) (by decide +kernel))) (hfl _ mj_n8.2) hA
  obtain ⟨v13, hv13, hc13⟩ : ∃ v : Value, va_Z "jdk/internal/util/Preconditions" "SIOOBE_FORMATTER" "Ljava/util/function/BiFunction;" v (fun q : Nat => s.heap.size ≤ q) s s.heap ∧ (v.category = 1 ∧ mj_fl v = false) := by
    rcases Z4 with h | ⟨t, h⟩
    · exact ⟨_, h, rfl, rfl⟩
    · exact ⟨_, h, rfl, rfl⟩
  have TX0' : va_T .int b L (fun k => .int (xs k)) (fun q : Nat => s.heap.size ≤ q) s s.heap := by
    obtain ⟨scr, h1, h2, h3, h4, h5⟩ := hX
    exact ⟨scr, h1, h2, h3, by omega, by rw [h4], h5, hA b hbl⟩

  obtain ⟨c0, iS0, hKn0⟩ := u_known (C := RX0) (T := TX0) (N := 3) (n := 3) hw mj_clw0 (hts (.instantiable RX0 3) (List.mem_of_getElem? (i := 545) (by decide +kernel)))
  obtain ⟨c1, iS1, hKn1⟩ := u_known (C := RX1) (T := TX1) (N := 2) (n := 2) hw mj_clw1 (hts (.instantiable RX1 2) (List.mem_of_getElem? (i := 624) (by decide +kernel)))
  obtain ⟨c2, iS2, hKn2⟩ := u_known (C := RX2) (T := TX2) (N := 10) (n := 10) hw mj_clw2 (hts (.instantiable RX2 10) (List.mem_of_getElem? (i := 276) (by decide +kernel)))
  obtain ⟨c3, iS3, hKn3⟩ := u_known (C := RX3) (T := TX3) (N := 4) (n := 4) hw mj_clw3 (hts (.instantiable RX3 4) (List.mem_of_getElem? (i := 320) (by decide +kernel)))
  obtain ⟨c4, iS4, hKn4⟩ := u_known (C := RX4) (T := TX4) (N := 9) (n := 9) hw mj_clw4 (hts (.instantiable RX4 9) (List.mem_of_getElem? (i := 590) (by decide +kernel)))
  obtain ⟨c5, iS5, hKn5⟩ := u_known (C := RX5) (T := TX5) (N := 3) (n := 3) hw mj_clw5 (hts (.instantiable RX5 3) (List.mem_of_getElem? (i := 454) (by decide +kernel)))
  obtain ⟨c6, iS6, hKn6⟩ := u_known (C := RX6) (T := TX6) (N := 17) (n := 17) hw mj_clw6 (hts (.instantiable RX6 17) (List.mem_of_getElem? (i := 474) (by decide +kernel)))
  obtain ⟨c7, iS7, hKn7⟩ := u_known (C := RX7) (T := TX7) (N := 17) (n := 17) hw mj_clw7 (hts (.instantiable RX7 17) (List.mem_of_getElem? (i := 180) (by decide +kernel)))
  obtain ⟨c8, iS8, hKn8⟩ := u_known (C := RX8) (T := TX8) (N := 6) (n := 6) hw mj_clw8 (hts (.instantiable RX8 6) (List.mem_of_getElem? (i := 564) (by decide +kernel)))
  obtain ⟨c9, iS9, hKn9⟩ := u_known (C := RX9) (T := TX9) (N := 11) (n := 11) hw mj_clw9 (hts (.instantiable RX9 11) (List.mem_of_getElem? (i := 353) (by decide +kernel)))
  obtain ⟨c10, iS10, hKn10⟩ := u_known (C := RX10) (T := TX10) (N := 10) (n := 10) hw mj_clw10 (hts (.instantiable RX10 10) (List.mem_of_getElem? (i := 174) (by decide +kernel)))
  obtain ⟨c11, iS11, hKn11⟩ := u_known (C := RX11) (T := TX11) (N := 10) (n := 10) hw mj_clw11 (hts (.instantiable RX11 10) (List.mem_of_getElem? (i := 166) (by decide +kernel)))
  obtain ⟨c12, iS12, hKn12⟩ := u_known (C := RX12) (T := TX12) (N := 67) (n := 67) hw mj_clw12 (hts (.instantiable RX12 67) (List.mem_of_getElem? (i := 1405) (by decide +kernel)))
  obtain ⟨dC, dI, hKc⟩ : ∃ (dC : Nat → ClassId) (dI : Nat → Nat → Nat), ∀ (k : Nat) (q : vw_C), vwCl[k]? = some q → u_Kn s q.1 q.2.1 q.2.2 (dC k) (dI k) := by
    refine ⟨fun k => if k = 0 then c0 else if k = 1 then c1 else if k = 2 then c2 else if k = 3 then c3 else if k = 4 then c4 else if k = 5 then c5 else if k = 6 then c6 else if k = 7 then c7 else if k = 8 then c8 else if k = 9 then c9 else if k = 10 then c10 else if k = 11 then c11 else c12, fun k => if k = 0 then iS0 else if k = 1 then iS1 else if k = 2 then iS2 else if k = 3 then iS3 else if k = 4 then iS4 else if k = 5 then iS5 else if k = 6 then iS6 else if k = 7 then iS7 else if k = 8 then iS8 else if k = 9 then iS9 else if k = 10 then iS10 else if k = 11 then iS11 else iS12, ?_⟩
    intro k q hq
    match k, hq with
    | 0, hq => cases hq; exact hKn0
    | 1, hq => cases hq; exact hKn1
    | 2, hq => cases hq; exact hKn2
    | 3, hq => cases hq; exact hKn3
    | 4, hq => cases hq; exact hKn4
    | 5, hq => cases hq; exact hKn5
    | 6, hq => cases hq; exact hKn6
    | 7, hq => cases hq; exact hKn7
    | 8, hq => cases hq; exact hKn8
    | 9, hq => cases hq; exact hKn9
    | 10, hq => cases hq; exact hKn10
    | 11, hq => cases hq; exact hKn11
    | 12, hq => cases hq; exact hKn12
    | k + 13, hq => simp [vwCl] at hq
  obtain ⟨cI, kI, pI, i1, i2, i3⟩ := Cond.arrayClass_spec (hw _ mj_gw_ok.2.2.2.2.2.2.1)
  obtain ⟨cJ, kJ, pJ, j1, j2, j3⟩ := Cond.arrayClass_spec (hw _ mj_gw_ok.2.2.2.2.2.2.2.1)
  obtain ⟨cB, kB, pB, b1, b2, b3⟩ := Cond.arrayClass_spec (hw _ mj_gw_ok.2.2.2.2.2.2.2.2)
  have hao : (Cond.arrayOver (.object "LastToWince$Room")).before #[Value.ref b] s = true := hts _ (List.mem_of_getElem? (i := 460) (by decide +kernel))
  obtain ⟨pR, cR, kR, r1, r2, r3, r4, r5⟩ := Cond.arrayOver_spec hao
  refine ⟨(s.heap.size, (fun j => if j = 0 then .ref b else if j = 1 then .ref t1 else if j = 2 then .ref t2 else if j < 8 then .ref (adK (j - 3)) else if j < 13 then .ref (adV (j - 8)) else v13), dC, dI, cI, cJ, cB, cR), rfl, rfl, ⟨hKc, fun k q hk => ?_⟩, ?_, ⟨fun w hwm hn => va_Nw.of (mj_nw_tab hn) (hts w hwm), va_AO.of hao⟩⟩
  · have hz : k < 4 := (List.getElem?_eq_some_iff.mp hk).1
    rcases (show k = 0 ∨ k = 1 ∨ k = 2 ∨ k = 3 by omega) with rfl | rfl | rfl | rfl
    · cases hk; exact ⟨fun n z => ⟨(fun k h => by cases h), kI, i2, pI, i3⟩, i1⟩
    · cases hk; exact ⟨fun n z => ⟨(fun k h => by cases h), kJ, j2, pJ, j3⟩, j1⟩
    · cases hk; exact ⟨fun n z => ⟨(fun k h => by cases h), kB, b2, pB, b3⟩, b1⟩
    · cases hk; exact ⟨fun n z => ⟨(fun k h => by cases h), kR, r3, pR, r4⟩, kR, pR, r3, r4, r1, r5⟩
  · refine ⟨fun j => if j = 0 then b else if j = 1 then t1 else if j = 2 then t2 else if j < 8 then adK (j - 3) else adV (j - 8), fun j hj => ?_, fun j => ?_, fun j hj => ?_, fun j h3 h8 => ?_, Z1, Z2, Z3, hv13, fun own k tx j hm h3 h8 htx => ?_⟩
    · dsimp only
      by_cases h0 : j = 0
      · rw [if_pos h0, if_pos h0]
      · rw [if_neg h0, if_neg h0]
        by_cases h1 : j = 1
        · rw [if_pos h1, if_pos h1]
        · rw [if_neg h1, if_neg h1]
          by_cases h2 : j = 2
          · rw [if_pos h2, if_pos h2]
          · rw [if_neg h2, if_neg h2]
            by_cases h8 : j < 8
            · rw [if_pos h8, if_pos h8]
            · rw [if_neg h8, if_neg h8, if_pos hj]
    · show (if j = 0 then Value.ref b else _).category = 1 ∧ mj_fl (if j = 0 then Value.ref b else _) = false
      by_cases h0 : j = 0
      · rw [if_pos h0]; exact ⟨rfl, rfl⟩
      · rw [if_neg h0]
        by_cases h1 : j = 1
        · rw [if_pos h1]; exact ⟨rfl, rfl⟩
        · rw [if_neg h1]
          by_cases h2 : j = 2
          · rw [if_pos h2]; exact ⟨rfl, rfl⟩
          · rw [if_neg h2]
            by_cases h8 : j < 8
            · rw [if_pos h8]; exact ⟨rfl, rfl⟩
            · rw [if_neg h8]
              by_cases h13 : j < 13
              · rw [if_pos h13]; exact ⟨rfl, rfl⟩
              · rw [if_neg h13]; exact hc13
    · rcases (show j = 0 ∨ j = 1 ∨ j = 2 by omega) with rfl | rfl | rfl
      · exact TX0'
      · exact T1
      · exact T2
    · rcases (show j = 3 ∨ j = 4 ∨ j = 5 ∨ j = 6 ∨ j = 7 by omega) with rfl | rfl | rfl | rfl | rfl
      · exact hS.1 0 (by decide)
      · exact hS.1 1 (by decide)
      · exact hS.1 2 (by decide)
      · exact hS.1 3 (by decide)
      · exact hS.1 4 (by decide)
    · have hsr := mj_sref _ hm rfl
      simp only [List.mem_cons, List.mem_nil_iff, or_false, Prod.mk.injEq] at hsr
      have hb := hts _ hm
      rcases hsr with ⟨rfl, rfl, rfl⟩ | ⟨rfl, rfl, rfl⟩ | ⟨rfl, rfl, rfl⟩ | ⟨rfl, rfl, rfl⟩ | ⟨rfl, rfl, rfl⟩
      · have : j = 3 := by rcases (show j = 3 ∨ j = 4 ∨ j = 5 ∨ j = 6 ∨ j = 7 by omega) with rfl | rfl | rfl | rfl | rfl <;> first | rfl | (exact absurd htx (by decide))
        subst this; exact vk_R.of hb (hev 0 (by decide))
      · have : j = 4 := by rcases (show j = 3 ∨ j = 4 ∨ j = 5 ∨ j = 6 ∨ j = 7 by omega) with rfl | rfl | rfl | rfl | rfl <;> first | rfl | (exact absurd htx (by decide))
        subst this; exact vk_R.of hb (hev 1 (by decide))
      · have : j = 5 := by rcases (show j = 3 ∨ j = 4 ∨ j = 5 ∨ j = 6 ∨ j = 7 by omega) with rfl | rfl | rfl | rfl | rfl <;> first | rfl | (exact absurd htx (by decide))
        subst this; exact vk_R.of hb (hev 2 (by decide))
      · have : j = 6 := by rcases (show j = 3 ∨ j = 4 ∨ j = 5 ∨ j = 6 ∨ j = 7 by omega) with rfl | rfl | rfl | rfl | rfl <;> first | rfl | (exact absurd htx (by decide))
        subst this; exact vk_R.of hb (hev 3 (by decide))
      · have : j = 7 := by rcases (show j = 3 ∨ j = 4 ∨ j = 5 ∨ j = 6 ∨ j = 7 by omega) with rfl | rfl | rfl | rfl | rfl <;> first | rfl | (exact absurd htx (by decide))
        subst this; exact vk_R.of hb (hev 4 (by decide))
