/-! copies of rows and rooms; what is kept, and gone back to -/
section MJ45
variable {E : mj_E} {C : Nat → List Value → mj_H → mj_R} {J : Nat → mj_K} {is : List mj_I} {pc pc' len : Nat} {cst : Int32} {ax : List Nat} {ls st : List Value} {h : mj_H} {R : mj_R}
theorem zt_aald {a n x j : Nat} {i : Int32} (hk : mj_kd h a = 103) (hn : mj_ln h a = n) (h0 : 0 ≤ i) (hj : i.toNatClampNeg = j) (hjn : j < n) (hv : h.2.2.1 a j = .ref x) (hp : pc + len = pc') (k : mj_bl E C J is pc' ls (.ref x :: st) h = R) : mj_bl E C J ((.aaload, len, cst, ax) :: is) pc ls (.int i :: .ref a :: st) h = R := by
  subst hp; subst hj; subst hn
  show mj_g (mj_kd h a = 103) _ = R
  rw [mj_g_if, if_pos hk, if_pos ⟨h0, hjn⟩, hv]
  exact k
end MJ45
theorem mj_kdw {w c a q n : Nat} {hi : mj_HI} {hl : Nat → Nat → Int64} (h : mj_nth (mj_CL c) a = (q, n)) : mj_kd (mj_hw w c hi hl) a = q := by
  show (mj_nth (mj_CL c) a).1 = q; rw [h]
theorem mj_lnw {w c a q n : Nat} {hi : mj_HI} {hl : Nat → Nat → Int64} (h : mj_nth (mj_CL c) a = (q, n)) : mj_ln (mj_hw w c hi hl) a = n := by
  show (mj_nth (mj_CL c) a).2 = n; rw [h]
/-- a room lies at r -/
def mj_Rm (w c r : Nat) : Prop := mj_nth (mj_CL c) r = (7, 17) ∧ ∀ i, i < 10 → mj_HR w c r (7 + i) = .ref (r + 1 + i) ∧ mj_nth (mj_CL c) (r + 1 + i) = (100, if i < 7 then 10 else 12)
theorem mj_Rm2 (w c : Nat) : mj_Rm w c 2 := by
  refine ⟨rfl, fun i hi => ?_⟩
  have : i = 0 ∨ i = 1 ∨ i = 2 ∨ i = 3 ∨ i = 4 ∨ i = 5 ∨ i = 6 ∨ i = 7 ∨ i = 8 ∨ i = 9 := by omega
  rcases this with rfl | rfl | rfl | rfl | rfl | rfl | rfl | rfl | rfl | rfl
  · exact ⟨mjhr2_7 w c, rfl⟩
  · exact ⟨mjhr2_8 w c, rfl⟩
  · exact ⟨mjhr2_9 w c, rfl⟩
  · exact ⟨mjhr2_10 w c, rfl⟩
  · exact ⟨mjhr2_11 w c, rfl⟩
  · exact ⟨mjhr2_12 w c, rfl⟩
  · exact ⟨mjhr2_13 w c, rfl⟩
  · exact ⟨mjhr2_14 w c, rfl⟩
  · exact ⟨mjhr2_15 w c, rfl⟩
  · exact ⟨mjhr2_16 w c, rfl⟩
theorem mj_Rm47 (w c : Nat) : mj_Rm w c 47 := by
  refine ⟨rfl, fun i hi => ?_⟩
  have : i = 0 ∨ i = 1 ∨ i = 2 ∨ i = 3 ∨ i = 4 ∨ i = 5 ∨ i = 6 ∨ i = 7 ∨ i = 8 ∨ i = 9 := by omega
  rcases this with rfl | rfl | rfl | rfl | rfl | rfl | rfl | rfl | rfl | rfl
  · exact ⟨mjhr47_7 w c, rfl⟩
  · exact ⟨mjhr47_8 w c, rfl⟩
  · exact ⟨mjhr47_9 w c, rfl⟩
  · exact ⟨mjhr47_10 w c, rfl⟩
  · exact ⟨mjhr47_11 w c, rfl⟩
  · exact ⟨mjhr47_12 w c, rfl⟩
  · exact ⟨mjhr47_13 w c, rfl⟩
  · exact ⟨mjhr47_14 w c, rfl⟩
  · exact ⟨mjhr47_15 w c, rfl⟩
  · exact ⟨mjhr47_16 w c, rfl⟩
theorem mj_Rm93 (w c : Nat) : mj_Rm w c 93 := by
  refine ⟨rfl, fun i hi => ?_⟩
  have : i = 0 ∨ i = 1 ∨ i = 2 ∨ i = 3 ∨ i = 4 ∨ i = 5 ∨ i = 6 ∨ i = 7 ∨ i = 8 ∨ i = 9 := by omega
  rcases this with rfl | rfl | rfl | rfl | rfl | rfl | rfl | rfl | rfl | rfl
  · exact ⟨mjhr93_7 w c, rfl⟩
  · exact ⟨mjhr93_8 w c, rfl⟩
  · exact ⟨mjhr93_9 w c, rfl⟩
  · exact ⟨mjhr93_10 w c, rfl⟩
  · exact ⟨mjhr93_11 w c, rfl⟩
  · exact ⟨mjhr93_12 w c, rfl⟩
  · exact ⟨mjhr93_13 w c, rfl⟩
  · exact ⟨mjhr93_14 w c, rfl⟩
  · exact ⟨mjhr93_15 w c, rfl⟩
  · exact ⟨mjhr93_16 w c, rfl⟩
theorem mj_Rm104 (w c : Nat) : mj_Rm w c 104 := by
  refine ⟨rfl, fun i hi => ?_⟩
  have : i = 0 ∨ i = 1 ∨ i = 2 ∨ i = 3 ∨ i = 4 ∨ i = 5 ∨ i = 6 ∨ i = 7 ∨ i = 8 ∨ i = 9 := by omega
  rcases this with rfl | rfl | rfl | rfl | rfl | rfl | rfl | rfl | rfl | rfl
  · exact ⟨mjhr104_7 w c, rfl⟩
  · exact ⟨mjhr104_8 w c, rfl⟩
  · exact ⟨mjhr104_9 w c, rfl⟩
  · exact ⟨mjhr104_10 w c, rfl⟩
  · exact ⟨mjhr104_11 w c, rfl⟩
  · exact ⟨mjhr104_12 w c, rfl⟩
  · exact ⟨mjhr104_13 w c, rfl⟩
  · exact ⟨mjhr104_14 w c, rfl⟩
  · exact ⟨mjhr104_15 w c, rfl⟩
  · exact ⟨mjhr104_16 w c, rfl⟩
theorem mj_Rm115 (w c : Nat) : mj_Rm w c 115 := by
  refine ⟨rfl, fun i hi => ?_⟩
  have : i = 0 ∨ i = 1 ∨ i = 2 ∨ i = 3 ∨ i = 4 ∨ i = 5 ∨ i = 6 ∨ i = 7 ∨ i = 8 ∨ i = 9 := by omega
  rcases this with rfl | rfl | rfl | rfl | rfl | rfl | rfl | rfl | rfl | rfl
  · exact ⟨mjhr115_7 w c, rfl⟩
  · exact ⟨mjhr115_8 w c, rfl⟩
  · exact ⟨mjhr115_9 w c, rfl⟩
  · exact ⟨mjhr115_10 w c, rfl⟩
  · exact ⟨mjhr115_11 w c, rfl⟩
  · exact ⟨mjhr115_12 w c, rfl⟩
  · exact ⟨mjhr115_13 w c, rfl⟩
  · exact ⟨mjhr115_14 w c, rfl⟩
  · exact ⟨mjhr115_15 w c, rfl⟩
  · exact ⟨mjhr115_16 w c, rfl⟩
theorem mj_Rm126 (w c : Nat) : mj_Rm w c 126 := by
  refine ⟨rfl, fun i hi => ?_⟩
  have : i = 0 ∨ i = 1 ∨ i = 2 ∨ i = 3 ∨ i = 4 ∨ i = 5 ∨ i = 6 ∨ i = 7 ∨ i = 8 ∨ i = 9 := by omega
  rcases this with rfl | rfl | rfl | rfl | rfl | rfl | rfl | rfl | rfl | rfl
  · exact ⟨mjhr126_7 w c, rfl⟩
  · exact ⟨mjhr126_8 w c, rfl⟩
  · exact ⟨mjhr126_9 w c, rfl⟩
  · exact ⟨mjhr126_10 w c, rfl⟩
  · exact ⟨mjhr126_11 w c, rfl⟩
  · exact ⟨mjhr126_12 w c, rfl⟩
  · exact ⟨mjhr126_13 w c, rfl⟩
  · exact ⟨mjhr126_14 w c, rfl⟩
  · exact ⟨mjhr126_15 w c, rfl⟩
  · exact ⟨mjhr126_16 w c, rfl⟩
theorem mj_Rm137 (w c : Nat) : mj_Rm w c 137 := by
  refine ⟨rfl, fun i hi => ?_⟩
  have : i = 0 ∨ i = 1 ∨ i = 2 ∨ i = 3 ∨ i = 4 ∨ i = 5 ∨ i = 6 ∨ i = 7 ∨ i = 8 ∨ i = 9 := by omega
  rcases this with rfl | rfl | rfl | rfl | rfl | rfl | rfl | rfl | rfl | rfl
  · exact ⟨mjhr137_7 w c, rfl⟩
  · exact ⟨mjhr137_8 w c, rfl⟩
  · exact ⟨mjhr137_9 w c, rfl⟩
  · exact ⟨mjhr137_10 w c, rfl⟩
  · exact ⟨mjhr137_11 w c, rfl⟩
  · exact ⟨mjhr137_12 w c, rfl⟩
  · exact ⟨mjhr137_13 w c, rfl⟩
  · exact ⟨mjhr137_14 w c, rfl⟩
  · exact ⟨mjhr137_15 w c, rfl⟩
  · exact ⟨mjhr137_16 w c, rfl⟩
theorem mj_Rm148 (w c : Nat) : mj_Rm w c 148 := by
  refine ⟨rfl, fun i hi => ?_⟩
  have : i = 0 ∨ i = 1 ∨ i = 2 ∨ i = 3 ∨ i = 4 ∨ i = 5 ∨ i = 6 ∨ i = 7 ∨ i = 8 ∨ i = 9 := by omega
  rcases this with rfl | rfl | rfl | rfl | rfl | rfl | rfl | rfl | rfl | rfl
  · exact ⟨mjhr148_7 w c, rfl⟩
  · exact ⟨mjhr148_8 w c, rfl⟩
  · exact ⟨mjhr148_9 w c, rfl⟩
  · exact ⟨mjhr148_10 w c, rfl⟩
  · exact ⟨mjhr148_11 w c, rfl⟩
  · exact ⟨mjhr148_12 w c, rfl⟩
  · exact ⟨mjhr148_13 w c, rfl⟩
  · exact ⟨mjhr148_14 w c, rfl⟩
  · exact ⟨mjhr148_15 w c, rfl⟩
  · exact ⟨mjhr148_16 w c, rfl⟩
theorem mj_Rm177 (w c : Nat) : mj_Rm w c 177 := by
  refine ⟨rfl, fun i hi => ?_⟩
  have : i = 0 ∨ i = 1 ∨ i = 2 ∨ i = 3 ∨ i = 4 ∨ i = 5 ∨ i = 6 ∨ i = 7 ∨ i = 8 ∨ i = 9 := by omega
  rcases this with rfl | rfl | rfl | rfl | rfl | rfl | rfl | rfl | rfl | rfl
  · exact ⟨mjhr177_7 w c, rfl⟩
  · exact ⟨mjhr177_8 w c, rfl⟩
  · exact ⟨mjhr177_9 w c, rfl⟩
  · exact ⟨mjhr177_10 w c, rfl⟩
  · exact ⟨mjhr177_11 w c, rfl⟩
  · exact ⟨mjhr177_12 w c, rfl⟩
  · exact ⟨mjhr177_13 w c, rfl⟩
  · exact ⟨mjhr177_14 w c, rfl⟩
  · exact ⟨mjhr177_15 w c, rfl⟩
  · exact ⟨mjhr177_16 w c, rfl⟩
theorem mj_RmK {w c x : Nat} (hx : x < 6) : mj_Rm w c (93 + 11 * x) := by
  have : x = 0 ∨ x = 1 ∨ x = 2 ∨ x = 3 ∨ x = 4 ∨ x = 5 := by omega
  rcases this with rfl | rfl | rfl | rfl | rfl | rfl
  · exact mj_Rm93 w c
  · exact mj_Rm104 w c
  · exact mj_Rm115 w c
  · exact mj_Rm126 w c
  · exact mj_Rm137 w c
  · exact mj_Rm148 w c
theorem mj_HRK {w c x : Nat} (hx : x < 6) : mj_HR w c 92 x = .ref (93 + 11 * x) := by
  have : x = 0 ∨ x = 1 ∨ x = 2 ∨ x = 3 ∨ x = 4 ∨ x = 5 := by omega
  rcases this with rfl | rfl | rfl | rfl | rfl | rfl
  · exact mjhr92_0 w c
  · exact mjhr92_1 w c
  · exact mjhr92_2 w c
  · exact mjhr92_3 w c
  · exact mjhr92_4 w c
  · exact mjhr92_5 w c
section MJ45b
variable {E : mj_E} {d w c : Nat} {hi : mj_HI} {hl : Nat → Nat → Int64}
theorem s_crow {a b n : Nat} (ha : mj_nth (mj_CL c) a = (100, n)) (hb : mj_nth (mj_CL c) b = (100, n)) (hn : n < 65536) : mj_dc mj_P E (d + 2) 149 [.ref a, .ref b] (mj_hw w c hi hl) = some (none, mj_hw w c (mj_ur hi b (fun k => if k < n then hi a k else hi b k)) hl) := by
  refine (mj_dc_eq mj_P E (d + 1) 149 [.ref a, .ref b] _ (Nat.le_of_ble_eq_true rfl)).trans ?_
  show mj_den mj_P E (d + 1) 149 0 [.ref a, .ref b] [] _ = _
  rw [mj_den_eq, f149_0]
  refine (zt_aload_n rfl rfl (zt_iconst rfl (zt_aload_n rfl rfl (zt_iconst rfl (zt_aload_n rfl rfl (zt_alen (q := 100) (mj_kdw ha) (by decide) (mj_lnw ha) rfl (zt_aload_n rfl rfl (zt_alen (q := 100) (mj_kdw hb) (by decide) (mj_lnw hb) rfl (zt_call1_1 (Nat.le_of_ble_eq_true rfl) rfl (Nat.le_of_ble_eq_true rfl) rfl rfl))))))))).trans ?_
  show mj_bi (mj_dc mj_P E (d + 1) 296 [.int (nI n), .int (nI n)] (mj_hw w c hi hl)) (fun x1 h1 => mj_den mj_P E (d + 1) 149 11 [.ref a, .ref b] [.int x1, .int 0, .ref b, .int 0, .ref a] h1) = _
  rw [s_min, mj_bi_some, if_neg Int32.lt_irrefl, mj_den_eq, f149_11]
  refine (zt_copy (mj_kdw ha) (mj_kdw hb) (Nat.le_of_ble_eq_true rfl) (mj_lnw ha) (mj_lnw hb) rfl rfl (zt_return)).trans ?_
  simp only [mj_zz, mj_nIc (show 0 < 2147483648 by omega), mj_nIc (show n < 2147483648 by omega), mj_nIle (show 0 < 2147483648 by omega) (show n < 2147483648 by omega), mj_nIle (show 0 < 2147483648 by omega) (show 0 < 2147483648 by omega), Nat.zero_add, Nat.sub_zero, Nat.zero_le, Nat.le_refl, true_and, and_self, mj_it]
  rfl
theorem r83_0 {r s : Nat} (hr : mj_Rm w c r) (hs : mj_Rm w c s) (hd : r + 10 < s ∨ s + 10 < r) : mj_den mj_P E d 83 0 [.ref r, .ref s] [] (mj_hw w c hi hl) = mj_bv (mj_dc mj_P E d 149 [.ref (s + 1 + 0), .ref (r + 1 + 0)] (mj_hw w c (mj_u (mj_u (mj_u (mj_u (mj_u (mj_u (mj_u hi r 0 (hi s 0)) r 1 (hi s 1)) r 2 (hi s 2)) r 3 (hi s 3)) r 4 (hi s 4)) r 5 (hi s 5)) r 6 (hi s 6)) hl)) (fun h1 => mj_den mj_P E d 83 67 [.ref r, .ref s] [] h1) := by
  rw [mj_den_eq, f83_0]
  exact zt_aload_n rfl rfl (zt_aload_n rfl rfl (zt_geti (v := hi s 0) (mj_kdw hs.1) rfl rfl (zt_puti (mj_kdw hr.1) rfl rfl (zt_aload_n rfl rfl (zt_aload_n rfl rfl (zt_geti (v := hi s 1) (mj_kdw hs.1) (by simp (disch := omega) only [mj_hw_wi, mj_hw_1, mj_u_pt]) rfl (zt_puti (mj_kdw hr.1) rfl rfl (zt_aload_n rfl rfl (zt_aload_n rfl rfl (zt_geti (v := hi s 2) (mj_kdw hs.1) (by simp (disch := omega) only [mj_hw_wi, mj_hw_1, mj_u_pt]) rfl (zt_puti (mj_kdw hr.1) rfl rfl (zt_aload_n rfl rfl (zt_aload_n rfl rfl (zt_geti (v := hi s 3) (mj_kdw hs.1) (by simp (disch := omega) only [mj_hw_wi, mj_hw_1, mj_u_pt]) rfl (zt_puti (mj_kdw hr.1) rfl rfl (zt_aload_n rfl rfl (zt_aload_n rfl rfl (zt_geti (v := hi s 4) (mj_kdw hs.1) (by simp (disch := omega) only [mj_hw_wi, mj_hw_1, mj_u_pt]) rfl (zt_puti (mj_kdw hr.1) rfl rfl (zt_aload_n rfl rfl (zt_aload_n rfl rfl (zt_geti (v := hi s 5) (mj_kdw hs.1) (by simp (disch := omega) only [mj_hw_wi, mj_hw_1, mj_u_pt]) rfl (zt_puti (mj_kdw hr.1) rfl rfl (zt_aload_n rfl rfl (zt_aload_n rfl rfl (zt_geti (v := hi s 6) (mj_kdw hs.1) (by simp (disch := omega) only [mj_hw_wi, mj_hw_1, mj_u_pt]) rfl (zt_puti (mj_kdw hr.1) rfl rfl (zt_aload_n rfl rfl (zt_getr (mj_kdw hs.1) (hs.2 0 (by omega)).1 rfl (zt_aload_n rfl rfl (zt_getr (mj_kdw hr.1) (hr.2 0 (by omega)).1 rfl (zt_call6_0 (Nat.le_of_ble_eq_true rfl) rfl (Nat.le_of_ble_eq_true rfl) rfl rfl))))))))))))))))))))))))))))))))
theorem r83_67 {r s : Nat} (hr : mj_Rm w c r) (hs : mj_Rm w c s) : mj_den mj_P E d 83 67 [.ref r, .ref s] [] (mj_hw w c hi hl) = mj_bv (mj_dc mj_P E d 149 [.ref (s + 1 + 1), .ref (r + 1 + 1)] (mj_hw w c hi hl)) (fun h1 => mj_den mj_P E d 83 78 [.ref r, .ref s] [] h1) := by
  rw [mj_den_eq, f83_67]
  exact zt_aload_n rfl rfl (zt_getr (mj_kdw hs.1) (hs.2 1 (by omega)).1 rfl (zt_aload_n rfl rfl (zt_getr (mj_kdw hr.1) (hr.2 1 (by omega)).1 rfl (zt_call6_0 (Nat.le_of_ble_eq_true rfl) rfl (Nat.le_of_ble_eq_true rfl) rfl rfl))))
theorem r83_78 {r s : Nat} (hr : mj_Rm w c r) (hs : mj_Rm w c s) : mj_den mj_P E d 83 78 [.ref r, .ref s] [] (mj_hw w c hi hl) = mj_bv (mj_dc mj_P E d 149 [.ref (s + 1 + 2), .ref (r + 1 + 2)] (mj_hw w c hi hl)) (fun h1 => mj_den mj_P E d 83 89 [.ref r, .ref s] [] h1) := by
  rw [mj_den_eq, f83_78]
  exact zt_aload_n rfl rfl (zt_getr (mj_kdw hs.1) (hs.2 2 (by omega)).1 rfl (zt_aload_n rfl rfl (zt_getr (mj_kdw hr.1) (hr.2 2 (by omega)).1 rfl (zt_call6_0 (Nat.le_of_ble_eq_true rfl) rfl (Nat.le_of_ble_eq_true rfl) rfl rfl))))
theorem r83_89 {r s : Nat} (hr : mj_Rm w c r) (hs : mj_Rm w c s) : mj_den mj_P E d 83 89 [.ref r, .ref s] [] (mj_hw w c hi hl) = mj_bv (mj_dc mj_P E d 149 [.ref (s + 1 + 3), .ref (r + 1 + 3)] (mj_hw w c hi hl)) (fun h1 => mj_den mj_P E d 83 100 [.ref r, .ref s] [] h1) := by
  rw [mj_den_eq, f83_89]
  exact zt_aload_n rfl rfl (zt_getr (mj_kdw hs.1) (hs.2 3 (by omega)).1 rfl (zt_aload_n rfl rfl (zt_getr (mj_kdw hr.1) (hr.2 3 (by omega)).1 rfl (zt_call6_0 (Nat.le_of_ble_eq_true rfl) rfl (Nat.le_of_ble_eq_true rfl) rfl rfl))))
theorem r83_100 {r s : Nat} (hr : mj_Rm w c r) (hs : mj_Rm w c s) : mj_den mj_P E d 83 100 [.ref r, .ref s] [] (mj_hw w c hi hl) = mj_bv (mj_dc mj_P E d 149 [.ref (s + 1 + 4), .ref (r + 1 + 4)] (mj_hw w c hi hl)) (fun h1 => mj_den mj_P E d 83 111 [.ref r, .ref s] [] h1) := by
  rw [mj_den_eq, f83_100]
  exact zt_aload_n rfl rfl (zt_getr (mj_kdw hs.1) (hs.2 4 (by omega)).1 rfl (zt_aload_n rfl rfl (zt_getr (mj_kdw hr.1) (hr.2 4 (by omega)).1 rfl (zt_call6_0 (Nat.le_of_ble_eq_true rfl) rfl (Nat.le_of_ble_eq_true rfl) rfl rfl))))
theorem r83_111 {r s : Nat} (hr : mj_Rm w c r) (hs : mj_Rm w c s) : mj_den mj_P E d 83 111 [.ref r, .ref s] [] (mj_hw w c hi hl) = mj_bv (mj_dc mj_P E d 149 [.ref (s + 1 + 5), .ref (r + 1 + 5)] (mj_hw w c hi hl)) (fun h1 => mj_den mj_P E d 83 122 [.ref r, .ref s] [] h1) := by
  rw [mj_den_eq, f83_111]
  exact zt_aload_n rfl rfl (zt_getr (mj_kdw hs.1) (hs.2 5 (by omega)).1 rfl (zt_aload_n rfl rfl (zt_getr (mj_kdw hr.1) (hr.2 5 (by omega)).1 rfl (zt_call6_0 (Nat.le_of_ble_eq_true rfl) rfl (Nat.le_of_ble_eq_true rfl) rfl rfl))))
theorem r83_122 {r s : Nat} (hr : mj_Rm w c r) (hs : mj_Rm w c s) : mj_den mj_P E d 83 122 [.ref r, .ref s] [] (mj_hw w c hi hl) = mj_bv (mj_dc mj_P E d 149 [.ref (s + 1 + 6), .ref (r + 1 + 6)] (mj_hw w c hi hl)) (fun h1 => mj_den mj_P E d 83 133 [.ref r, .ref s] [] h1) := by
  rw [mj_den_eq, f83_122]
  exact zt_aload_n rfl rfl (zt_getr (mj_kdw hs.1) (hs.2 6 (by omega)).1 rfl (zt_aload_n rfl rfl (zt_getr (mj_kdw hr.1) (hr.2 6 (by omega)).1 rfl (zt_call6_0 (Nat.le_of_ble_eq_true rfl) rfl (Nat.le_of_ble_eq_true rfl) rfl rfl))))
theorem r83_133 {r s : Nat} (hr : mj_Rm w c r) (hs : mj_Rm w c s) : mj_den mj_P E d 83 133 [.ref r, .ref s] [] (mj_hw w c hi hl) = mj_bv (mj_dc mj_P E d 149 [.ref (s + 1 + 7), .ref (r + 1 + 7)] (mj_hw w c hi hl)) (fun h1 => mj_den mj_P E d 83 144 [.ref r, .ref s] [] h1) := by
  rw [mj_den_eq, f83_133]
  exact zt_aload_n rfl rfl (zt_getr (mj_kdw hs.1) (hs.2 7 (by omega)).1 rfl (zt_aload_n rfl rfl (zt_getr (mj_kdw hr.1) (hr.2 7 (by omega)).1 rfl (zt_call6_0 (Nat.le_of_ble_eq_true rfl) rfl (Nat.le_of_ble_eq_true rfl) rfl rfl))))
theorem r83_144 {r s : Nat} (hr : mj_Rm w c r) (hs : mj_Rm w c s) : mj_den mj_P E d 83 144 [.ref r, .ref s] [] (mj_hw w c hi hl) = mj_bv (mj_dc mj_P E d 149 [.ref (s + 1 + 8), .ref (r + 1 + 8)] (mj_hw w c hi hl)) (fun h1 => mj_den mj_P E d 83 155 [.ref r, .ref s] [] h1) := by
  rw [mj_den_eq, f83_144]
  exact zt_aload_n rfl rfl (zt_getr (mj_kdw hs.1) (hs.2 8 (by omega)).1 rfl (zt_aload_n rfl rfl (zt_getr (mj_kdw hr.1) (hr.2 8 (by omega)).1 rfl (zt_call6_0 (Nat.le_of_ble_eq_true rfl) rfl (Nat.le_of_ble_eq_true rfl) rfl rfl))))
theorem r83_155 {r s : Nat} (hr : mj_Rm w c r) (hs : mj_Rm w c s) : mj_den mj_P E d 83 155 [.ref r, .ref s] [] (mj_hw w c hi hl) = mj_bv (mj_dc mj_P E d 149 [.ref (s + 1 + 9), .ref (r + 1 + 9)] (mj_hw w c hi hl)) (fun h1 => mj_den mj_P E d 83 166 [.ref r, .ref s] [] h1) := by
  rw [mj_den_eq, f83_155]
  exact zt_aload_n rfl rfl (zt_getr (mj_kdw hs.1) (hs.2 9 (by omega)).1 rfl (zt_aload_n rfl rfl (zt_getr (mj_kdw hr.1) (hr.2 9 (by omega)).1 rfl (zt_call6_0 (Nat.le_of_ble_eq_true rfl) rfl (Nat.le_of_ble_eq_true rfl) rfl rfl))))
end MJ45b
