/-! what is kept ahead of an act, and gone back to -/
section MJ47
variable {E : mj_E} {d w c : Nat} {hi : mj_HI} {hl : Nat → Nat → Int64}
theorem f43_0 : mj_find (mj_P 43).2.2.2.2 0 = [(.aload_n 0, 1, 0, []), (.getfield 15, 3, 0, [5, 1, 0, 464]), (.ifCond .lt 24, 3, 0, [28]), (.aload_n 0, 1, 0, []), (.getfield 15, 3, 0, [5, 1, 0, 464]), (.bipush 6, 2, 6, []), (.if_icmp .ge 15, 3, 0, [28]), (.aload_n 0, 1, 0, []), (.getfield 20, 3, 0, [5, 2, 3, 465]), (.aload_n 0, 1, 0, []), (.getfield 15, 3, 0, [5, 1, 0, 464]), (.aaload, 1, 0, []), (.ifnonnull 4, 3, 0, [29])] := rfl
theorem f43_29 : mj_find (mj_P 43).2.2.2.2 29 = [(.aload_n 0, 1, 0, []), (.getfield 20, 3, 0, [5, 2, 3, 465]), (.aload_n 0, 1, 0, []), (.getfield 15, 3, 0, [5, 1, 0, 464]), (.aaload, 1, 0, []), (.aload_n 1, 1, 0, []), (.invokevirtual 25, 3, 0, [0, 83, 7, 1, 0, 720, 721, 722, 145, 723])] := rfl
theorem f43_42 : mj_find (mj_P 43).2.2.2.2 42 = [(.aload_n 0, 1, 0, []), (.aload_n 0, 1, 0, []), (.getfield 15, 3, 0, [5, 1, 0, 464]), (.iconst 1, 1, 1, []), (.iadd, 1, 0, []), (.bipush 6, 2, 6, []), (.irem, 1, 0, []), (.putfield 15, 3, 0, [5, 1, 0, 464]), (.aload_n 0, 1, 0, []), (.bipush 6, 2, 6, []), (.aload_n 0, 1, 0, []), (.getfield 9, 3, 0, [5, 0, 0, 462]), (.iconst 1, 1, 1, []), (.iadd, 1, 0, []), (.invokestatic 29, 3, 0, [1, 296, 0, 2, 1, 733, 728, 157, 729])] := rfl
theorem f43_67 : mj_find (mj_P 43).2.2.2.2 67 = [(.putfield 9, 3, 0, [5, 0, 0, 462]), (.return_, 1, 0, [])] := rfl
theorem r43_0 {x : Nat} (hx : x < 6) (h1 : hi 91 1 = nI x) : mj_den mj_P E d 43 0 [.ref 91, .ref 2] [] (mj_hw w c hi hl) = if hi 91 1 < 0 then mj_den mj_P E d 43 28 [.ref 91, .ref 2] [] (mj_hw w c hi hl) else if 6 ≤ hi 91 1 then mj_den mj_P E d 43 28 [.ref 91, .ref 2] [] (mj_hw w c hi hl) else mj_den mj_P E d 43 29 [.ref 91, .ref 2] [] (mj_hw w c hi hl) := by
  rw [mj_den_eq, f43_0]
  exact zt_aload_n rfl rfl (zt_geti (mjkd91 _ _ _ _) rfl rfl (zt_if_lt rfl rfl (zt_aload_n rfl rfl (zt_geti (mjkd91 _ _ _ _) rfl rfl (zt_bipush rfl (zt_icmp_ge rfl rfl (zt_aload_n rfl rfl (zt_getr (mjkd91 _ _ _ _) (mjhr91_2 w c) rfl (zt_aload_n rfl rfl (zt_geti (v := nI x) (mjkd91 _ _ _ _) h1 rfl (zt_aald (n := 6) (j := x) (x := 93 + 11 * x) rfl rfl (by rw [mj_nI0 (by omega)]; trivial) (mj_nIc (by omega)) hx (mj_HRK (w := w) (c := c) hx) rfl (zt_nnr rfl))))))))))))
theorem r43_29 {x : Nat} (hx : x < 6) (h1 : hi 91 1 = nI x) : mj_den mj_P E d 43 29 [.ref 91, .ref 2] [] (mj_hw w c hi hl) = mj_bv (mj_dc mj_P E d 83 [.ref (93 + 11 * x), .ref 2] (mj_hw w c hi hl)) (fun h1 => mj_den mj_P E d 43 42 [.ref 91, .ref 2] [] h1) := by
  rw [mj_den_eq, f43_29]
  exact zt_aload_n rfl rfl (zt_getr (mjkd91 _ _ _ _) (mjhr91_2 w c) rfl (zt_aload_n rfl rfl (zt_geti (v := nI x) (mjkd91 _ _ _ _) h1 rfl (zt_aald (n := 6) (j := x) (x := 93 + 11 * x) rfl rfl (by rw [mj_nI0 (by omega)]; trivial) (mj_nIc (by omega)) hx (mj_HRK (w := w) (c := c) hx) rfl (zt_aload_n rfl rfl (zt_call0_0 rfl (mj_kdw (mj_RmK (w := w) hx).1) (Nat.le_of_ble_eq_true rfl) rfl rfl))))))
theorem r43_42 : mj_den mj_P E d 43 42 [.ref 91, .ref 2] [] (mj_hw w c hi hl) = if (6 : Int32) = 0 then none else mj_bi (mj_dc mj_P E d 296 [.int 6, .int (hi 91 0 + 1)] (mj_hw w c (mj_u hi 91 1 (mj_rem (hi 91 1 + 1) 6)) hl)) (fun x1 h1 => mj_den mj_P E d 43 67 [.ref 91, .ref 2] [.int x1, .ref 91] h1) := by
  rw [mj_den_eq, f43_42]
  exact zt_aload_n rfl rfl (zt_aload_n rfl rfl (zt_geti (mjkd91 _ _ _ _) rfl rfl (zt_iconst rfl (zt_iadd rfl (zt_bipush rfl (zt_irem rfl (zt_puti (mjkd91 _ _ _ _) rfl rfl (zt_aload_n rfl rfl (zt_bipush rfl (zt_aload_n rfl rfl (zt_geti (v := hi 91 0) (mjkd91 _ _ _ _) (by simp (disch := omega) only [mj_hw_wi, mj_hw_1, mj_u_pt]) rfl (zt_iconst rfl (zt_iadd rfl (zt_call1_1 (Nat.le_of_ble_eq_true rfl) rfl (Nat.le_of_ble_eq_true rfl) rfl rfl))))))))))))))
theorem r43_67 (x : Int32) : mj_den mj_P E d 43 67 [.ref 91, .ref 2] [.int x, .ref 91] (mj_hw w c hi hl) = some (none, mj_hw w c (mj_u hi 91 0 x) hl) := by
  rw [mj_den_eq, f43_67]
  exact zt_puti (mjkd91 _ _ _ _) rfl rfl zt_return
theorem s_keep {x u : Nat} (hx : x < 6) (hu : u ≤ 6) (h1 : hi 91 1 = nI x) (h0 : hi 91 0 = nI u) : ∃ hi', mj_dc mj_P E (d + 4) 43 [.ref 91, .ref 2] (mj_hw w c hi hl) = some (none, mj_hw w c hi' hl) ∧ hi' 91 0 = nI (min 6 (u + 1)) ∧ hi' 91 1 = nI ((x + 1) % 6) ∧ (∀ j k, j < 11 → k < iv_wl (1 + j) → hi' (93 + 11 * x + j) k = hi (2 + j) k) ∧ (∀ a k, (a < 93 + 11 * x ∨ 93 + 11 * x + 10 < a) → a ≠ 91 → hi' a k = hi a k) := by
  obtain ⟨g, eg, g1, g2⟩ := s_rcopy (E := E) (d := d) (w := w) (c := c) (hi := hi) (hl := hl) (mj_RmK (w := w) (c := c) hx) (mj_Rm2 w c) (Or.inr (by omega))
  refine ⟨mj_u (mj_u g 91 1 (nI ((x + 1) % 6))) 91 0 (nI (min 6 (u + 1))), ?_, ?_, ?_, ?_, ?_⟩
  · refine (mj_dc_eq mj_P E (d + 3) 43 [.ref 91, .ref 2] _ (Nat.le_of_ble_eq_true rfl)).trans ?_
    show mj_den mj_P E (d + 3) 43 0 [.ref 91, .ref 2] [] (mj_hw w c hi hl) = _
    have hm : (if u + 1 < 6 then nI (u + 1) else nI 6) = nI (min 6 (u + 1)) := by
      by_cases h : u + 1 < 6
      · rw [if_pos h, Nat.min_eq_right (by omega)]
      · rw [if_neg h, Nat.min_eq_left (by omega)]
    rw [r43_0 hx h1, r43_29 hx h1, eg, mj_bv_some, r43_42, g2 91 1 (by omega), g2 91 0 (by omega), h1, h0]
    simp (disch := omega) only [↓reduceIte, Bool.false_eq_true, eq_self, mj_10, mj_01, mj_n10, mj_0n1, mj_1n1, mj_n11, mj_bi_some, mj_bv_some, mj_bj_some, mj_br_some, mj_r0, mj_r1, mj_q0, mj_q1, mj_b01, mj_q2, if_true, if_false, mj_it, mj_if, true_and, and_true, false_and, and_false, not_true_eq_false, not_false_eq_true, true_or, or_true, false_or, or_false, mj_nIle, mj_nIlt, mj_nIeq, mj_nI0, mj_nIc, mj_nIadd, mj_nIs, mj_ez, mj_ze, mj_eo, mj_ltz, mj_lez, mj_zlt, mj_olt, mj_lto, mj_leo, mj_ole, mj_nIn, mj_nnI, nl_2, nl_3, nl_4, nl_5, nl_6, nl_7, nl_8, nl_9, nl_10, nl_11, nl_12, nl_13, nl_14, nl_15, nl_16, nl_17, nl_18, nl_19, nl_20, nl_21, nl_22, nl_23, nl_24, nl_25, nl_26, nl_27, nl_28, nl_29, nl_30, nl_32, nl_33, nl_34, nl_35, nl_36, nl_37, nl_38, nl_39, nl_40, nl_41, nl_42, nl_43, nl_44, nl_45, nl_46, nl_47, nl_48, nl_49, nl_50, nl_51, nl_52, nl_53, nl_54, nl_55, nl_56, nl_57, nl_58, nl_59, nl_60, nl_61, nl_62, nl_64, nl_65, nl_66, nl_67, nl_68, nl_69, nl_92, nl_97, nl_99, nl_100, nl_122, nl_127, nl_128, nl_131, nl_132, nl_150, nl_200, nl_255, nl_256, nl_300, nl_342, nl_380, nl_381, nl_400, nl_401, nl_420, nl_500, nl_600, nl_800, nl_999, nl_1000, nl_1023, nl_1024, nl_1200, nl_2048, nl_2100, nl_4096, nl_9999, nl_10000, nl_10240, nl_999999, nl_1000000, if_pos, if_neg, s_min, mj_nIrem, r43_67, hm, show (6 : Int32) = nI 6 from rfl]
  · rw [mj_u_eq]
  · rw [mj_u_pt (by omega), mj_u_eq]
  · intro j k hj hk
    rw [mj_u_pt (by omega), mj_u_pt (by omega), g1 j k hj hk]
  · intro a k ha hb
    rw [mj_u_pt (by omega), mj_u_pt (by omega), g2 a k ha]
end MJ47
