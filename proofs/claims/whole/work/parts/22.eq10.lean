set_option maxRecDepth 100000 in
theorem f150_0 : mj_find (mj_P 150).2.2.2.2 0 = [(.iconst 0, 1, 0, []), (.istore_n 3, 1, 0, [])] := rfl
set_option maxRecDepth 100000 in
theorem q150_0 (E : mj_E) (d w c : Nat) (hi : Nat → Nat → Int32) (hl : Nat → Nat → Int64) (v2 : Int32) : mj_den mj_P E d 150 0 [Value.ref 204, Value.ref 3, Value.int v2, Value.float 0, Value.float 0] [] (mj_hw w c hi hl) = mj_den mj_P E d 150 2 [Value.ref 204, Value.ref 3, Value.int v2, Value.int (0 : Int32), Value.float 0] [] (mj_hw w c hi hl) := by
  rw [mj_den_eq, f150_0]
  exact zt_iconst rfl (zt_istore_n (Nat.le_of_ble_eq_true rfl) rfl rfl (zt_end rfl))
set_option maxRecDepth 100000 in
theorem q150_0_1 (E : mj_E) (d w c : Nat) (hi : Nat → Nat → Int32) (hl : Nat → Nat → Int64) (v2 : Int32) : mj_den mj_P E d 150 0 [Value.ref 193, Value.ref 41, Value.int v2, Value.float 0, Value.float 0] [] (mj_hw w c hi hl) = mj_den mj_P E d 150 2 [Value.ref 193, Value.ref 41, Value.int v2, Value.int (0 : Int32), Value.float 0] [] (mj_hw w c hi hl) := by
  rw [mj_den_eq, f150_0]
  exact zt_iconst rfl (zt_istore_n (Nat.le_of_ble_eq_true rfl) rfl rfl (zt_end rfl))
set_option maxRecDepth 100000 in
theorem f150_2 : mj_find (mj_P 150).2.2.2.2 2 = [(.iload_n 3, 1, 0, []), (.iload_n 2, 1, 0, []), (.if_icmp .ge 64, 3, 0, [68]), (.iload_n 3, 1, 0, []), (.aload_n 1, 1, 0, []), (.arraylength, 1, 0, []), (.if_icmp .ge 58, 3, 0, [68]), (.iload_n 3, 1, 0, []), (.aload_n 0, 1, 0, []), (.arraylength, 1, 0, []), (.if_icmp .ge 52, 3, 0, [68]), (.iload_n 3, 1, 0, []), (.istore 4, 2, 0, [])] := rfl
set_option maxRecDepth 100000 in
theorem q150_2 (E : mj_E) (d w c : Nat) (hi : Nat → Nat → Int32) (hl : Nat → Nat → Int64) (v2 : Int32) (v3 : Int32) : mj_den mj_P E d 150 2 [Value.ref 204, Value.ref 3, Value.int v2, Value.int v3, Value.float 0] [] (mj_hw w c hi hl) = if v2 ≤ v3 then mj_den mj_P E d 150 68 [Value.ref 204, Value.ref 3, Value.int v2, Value.int v3, Value.float 0] [] (mj_hw w c hi hl) else if (Int32.ofNat 10) ≤ v3 then mj_den mj_P E d 150 68 [Value.ref 204, Value.ref 3, Value.int v2, Value.int v3, Value.float 0] [] (mj_hw w c hi hl) else if (Int32.ofNat 10) ≤ v3 then mj_den mj_P E d 150 68 [Value.ref 204, Value.ref 3, Value.int v2, Value.int v3, Value.float 0] [] (mj_hw w c hi hl) else mj_den mj_P E d 150 22 [Value.ref 204, Value.ref 3, Value.int v2, Value.int v3, Value.int v3] [] (mj_hw w c hi hl) := by
  rw [mj_den_eq, f150_2]
  exact zt_iload_n rfl rfl (zt_iload_n rfl rfl (zt_icmp_ge rfl rfl (zt_iload_n rfl rfl (zt_aload_n rfl rfl (zt_alen (q := 100) (mjkd3 _ _ _ _) (by decide) (mjln3 _ _ _ _) rfl (zt_icmp_ge rfl rfl (zt_iload_n rfl rfl (zt_aload_n rfl rfl (zt_alen (q := 100) (mjkd204 _ _ _ _) (by decide) (mjln204 _ _ _ _) rfl (zt_icmp_ge rfl rfl (zt_iload_n rfl rfl (zt_istore (Nat.le_of_ble_eq_true rfl) rfl rfl (zt_end rfl)))))))))))))
set_option maxRecDepth 100000 in
theorem q150_2_1 (E : mj_E) (d w c : Nat) (hi : Nat → Nat → Int32) (hl : Nat → Nat → Int64) (v2 : Int32) (v3 : Int32) (v4 : Int32) : mj_den mj_P E d 150 2 [Value.ref 204, Value.ref 3, Value.int v2, Value.int v3, Value.int v4] [] (mj_hw w c hi hl) = if v2 ≤ v3 then mj_den mj_P E d 150 68 [Value.ref 204, Value.ref 3, Value.int v2, Value.int v3, Value.int v4] [] (mj_hw w c hi hl) else if (Int32.ofNat 10) ≤ v3 then mj_den mj_P E d 150 68 [Value.ref 204, Value.ref 3, Value.int v2, Value.int v3, Value.int v4] [] (mj_hw w c hi hl) else if (Int32.ofNat 10) ≤ v3 then mj_den mj_P E d 150 68 [Value.ref 204, Value.ref 3, Value.int v2, Value.int v3, Value.int v4] [] (mj_hw w c hi hl) else mj_den mj_P E d 150 22 [Value.ref 204, Value.ref 3, Value.int v2, Value.int v3, Value.int v3] [] (mj_hw w c hi hl) := by
  rw [mj_den_eq, f150_2]
  exact zt_iload_n rfl rfl (zt_iload_n rfl rfl (zt_icmp_ge rfl rfl (zt_iload_n rfl rfl (zt_aload_n rfl rfl (zt_alen (q := 100) (mjkd3 _ _ _ _) (by decide) (mjln3 _ _ _ _) rfl (zt_icmp_ge rfl rfl (zt_iload_n rfl rfl (zt_aload_n rfl rfl (zt_alen (q := 100) (mjkd204 _ _ _ _) (by decide) (mjln204 _ _ _ _) rfl (zt_icmp_ge rfl rfl (zt_iload_n rfl rfl (zt_istore (Nat.le_of_ble_eq_true rfl) rfl rfl (zt_end rfl)))))))))))))
set_option maxRecDepth 100000 in
theorem q150_2_2 (E : mj_E) (d w c : Nat) (hi : Nat → Nat → Int32) (hl : Nat → Nat → Int64) (v2 : Int32) (v3 : Int32) : mj_den mj_P E d 150 2 [Value.ref 193, Value.ref 41, Value.int v2, Value.int v3, Value.float 0] [] (mj_hw w c hi hl) = if v2 ≤ v3 then mj_den mj_P E d 150 68 [Value.ref 193, Value.ref 41, Value.int v2, Value.int v3, Value.float 0] [] (mj_hw w c hi hl) else if (Int32.ofNat 12) ≤ v3 then mj_den mj_P E d 150 68 [Value.ref 193, Value.ref 41, Value.int v2, Value.int v3, Value.float 0] [] (mj_hw w c hi hl) else if (Int32.ofNat 12) ≤ v3 then mj_den mj_P E d 150 68 [Value.ref 193, Value.ref 41, Value.int v2, Value.int v3, Value.float 0] [] (mj_hw w c hi hl) else mj_den mj_P E d 150 22 [Value.ref 193, Value.ref 41, Value.int v2, Value.int v3, Value.int v3] [] (mj_hw w c hi hl) := by
  rw [mj_den_eq, f150_2]
  exact zt_iload_n rfl rfl (zt_iload_n rfl rfl (zt_icmp_ge rfl rfl (zt_iload_n rfl rfl (zt_aload_n rfl rfl (zt_alen (q := 100) (mjkd41 _ _ _ _) (by decide) (mjln41 _ _ _ _) rfl (zt_icmp_ge rfl rfl (zt_iload_n rfl rfl (zt_aload_n rfl rfl (zt_alen (q := 100) (mjkd193 _ _ _ _) (by decide) (mjln193 _ _ _ _) rfl (zt_icmp_ge rfl rfl (zt_iload_n rfl rfl (zt_istore (Nat.le_of_ble_eq_true rfl) rfl rfl (zt_end rfl)))))))))))))
set_option maxRecDepth 100000 in
theorem q150_2_3 (E : mj_E) (d w c : Nat) (hi : Nat → Nat → Int32) (hl : Nat → Nat → Int64) (v2 : Int32) (v3 : Int32) (v4 : Int32) : mj_den mj_P E d 150 2 [Value.ref 193, Value.ref 41, Value.int v2, Value.int v3, Value.int v4] [] (mj_hw w c hi hl) = if v2 ≤ v3 then mj_den mj_P E d 150 68 [Value.ref 193, Value.ref 41, Value.int v2, Value.int v3, Value.int v4] [] (mj_hw w c hi hl) else if (Int32.ofNat 12) ≤ v3 then mj_den mj_P E d 150 68 [Value.ref 193, Value.ref 41, Value.int v2, Value.int v3, Value.int v4] [] (mj_hw w c hi hl) else if (Int32.ofNat 12) ≤ v3 then mj_den mj_P E d 150 68 [Value.ref 193, Value.ref 41, Value.int v2, Value.int v3, Value.int v4] [] (mj_hw w c hi hl) else mj_den mj_P E d 150 22 [Value.ref 193, Value.ref 41, Value.int v2, Value.int v3, Value.int v3] [] (mj_hw w c hi hl) := by
  rw [mj_den_eq, f150_2]
  exact zt_iload_n rfl rfl (zt_iload_n rfl rfl (zt_icmp_ge rfl rfl (zt_iload_n rfl rfl (zt_aload_n rfl rfl (zt_alen (q := 100) (mjkd41 _ _ _ _) (by decide) (mjln41 _ _ _ _) rfl (zt_icmp_ge rfl rfl (zt_iload_n rfl rfl (zt_aload_n rfl rfl (zt_alen (q := 100) (mjkd193 _ _ _ _) (by decide) (mjln193 _ _ _ _) rfl (zt_icmp_ge rfl rfl (zt_iload_n rfl rfl (zt_istore (Nat.le_of_ble_eq_true rfl) rfl rfl (zt_end rfl)))))))))))))
set_option maxRecDepth 100000 in
theorem f150_22 : mj_find (mj_P 150).2.2.2.2 22 = [(.iload 4, 2, 0, []), (.ifCond .le 31, 3, 0, [55]), (.aload_n 0, 1, 0, []), (.iload 4, 2, 0, []), (.iconst 1, 1, 1, []), (.isub, 1, 0, []), (.iaload, 1, 0, []), (.aload_n 1, 1, 0, []), (.iload_n 3, 1, 0, []), (.iaload, 1, 0, []), (.if_icmp .le 19, 3, 0, [55]), (.aload_n 0, 1, 0, []), (.iload 4, 2, 0, []), (.aload_n 0, 1, 0, []), (.iload 4, 2, 0, []), (.iconst 1, 1, 1, []), (.isub, 1, 0, []), (.iaload, 1, 0, []), (.iastore, 1, 0, []), (.iinc 4 (-1), 3, (-1), []), (.goto (-30), 3, 0, [22])] := rfl
set_option maxRecDepth 100000 in
theorem q150_22 (E : mj_E) (d w c : Nat) (hi : Nat → Nat → Int32) (hl : Nat → Nat → Int64) (v2 : Int32) (v3 : Int32) (v4 : Int32) : mj_den mj_P E d 150 22 [Value.ref 204, Value.ref 3, Value.int v2, Value.int v3, Value.int v4] [] (mj_hw w c hi hl) = if v4 ≤ 0 then mj_den mj_P E d 150 55 [Value.ref 204, Value.ref 3, Value.int v2, Value.int v3, Value.int v4] [] (mj_hw w c hi hl) else if 0 ≤ (v4 - (1 : Int32)) ∧ ((v4 - (1 : Int32))).toNatClampNeg < 10 then if 0 ≤ v3 ∧ (v3).toNatClampNeg < 10 then if (hi 204 (((v4 - (1 : Int32))).toNatClampNeg)) ≤ (hi 3 ((v3).toNatClampNeg)) then mj_den mj_P E d 150 55 [Value.ref 204, Value.ref 3, Value.int v2, Value.int v3, Value.int v4] [] (mj_hw w c hi hl) else if 0 ≤ (v4 - (1 : Int32)) ∧ ((v4 - (1 : Int32))).toNatClampNeg < 10 then if 0 ≤ v4 ∧ (v4).toNatClampNeg < 10 then mj_den mj_P E d 150 22 [Value.ref 204, Value.ref 3, Value.int v2, Value.int v3, Value.int (v4 + (-1 : Int32))] [] (mj_hw w c (mj_u hi 204 ((v4).toNatClampNeg) (hi 204 (((v4 - (1 : Int32))).toNatClampNeg))) hl) else none else none else none else none := by
  rw [mj_den_eq, f150_22]
  exact zt_iload rfl rfl (zt_if_le rfl rfl (zt_aload_n rfl rfl (zt_iload rfl rfl (zt_iconst rfl (zt_isub rfl (zt_iald (mjkd204 _ _ _ _) (mjln204 _ _ _ _) rfl rfl (zt_aload_n rfl rfl (zt_iload_n rfl rfl (zt_iald (mjkd3 _ _ _ _) (mjln3 _ _ _ _) rfl rfl (zt_icmp_le rfl rfl (zt_aload_n rfl rfl (zt_iload rfl rfl (zt_aload_n rfl rfl (zt_iload rfl rfl (zt_iconst rfl (zt_isub rfl (zt_iald (mjkd204 _ _ _ _) (mjln204 _ _ _ _) rfl rfl (zt_iast (mjkd204 _ _ _ _) (mjln204 _ _ _ _) rfl rfl (zt_iinc rfl (Nat.le_of_ble_eq_true rfl) rfl rfl (zt_goto rfl))))))))))))))))))))
set_option maxRecDepth 100000 in
theorem q150_22_1 (E : mj_E) (d w c : Nat) (hi : Nat → Nat → Int32) (hl : Nat → Nat → Int64) (v2 : Int32) (v3 : Int32) (v4 : Int32) : mj_den mj_P E d 150 22 [Value.ref 193, Value.ref 41, Value.int v2, Value.int v3, Value.int v4] [] (mj_hw w c hi hl) = if v4 ≤ 0 then mj_den mj_P E d 150 55 [Value.ref 193, Value.ref 41, Value.int v2, Value.int v3, Value.int v4] [] (mj_hw w c hi hl) else if 0 ≤ (v4 - (1 : Int32)) ∧ ((v4 - (1 : Int32))).toNatClampNeg < 12 then if 0 ≤ v3 ∧ (v3).toNatClampNeg < 12 then if (hi 193 (((v4 - (1 : Int32))).toNatClampNeg)) ≤ (hi 41 ((v3).toNatClampNeg)) then mj_den mj_P E d 150 55 [Value.ref 193, Value.ref 41, Value.int v2, Value.int v3, Value.int v4] [] (mj_hw w c hi hl) else if 0 ≤ (v4 - (1 : Int32)) ∧ ((v4 - (1 : Int32))).toNatClampNeg < 12 then if 0 ≤ v4 ∧ (v4).toNatClampNeg < 12 then mj_den mj_P E d 150 22 [Value.ref 193, Value.ref 41, Value.int v2, Value.int v3, Value.int (v4 + (-1 : Int32))] [] (mj_hw w c (mj_u hi 193 ((v4).toNatClampNeg) (hi 193 (((v4 - (1 : Int32))).toNatClampNeg))) hl) else none else none else none else none := by
  rw [mj_den_eq, f150_22]
  exact zt_iload rfl rfl (zt_if_le rfl rfl (zt_aload_n rfl rfl (zt_iload rfl rfl (zt_iconst rfl (zt_isub rfl (zt_iald (mjkd193 _ _ _ _) (mjln193 _ _ _ _) rfl rfl (zt_aload_n rfl rfl (zt_iload_n rfl rfl (zt_iald (mjkd41 _ _ _ _) (mjln41 _ _ _ _) rfl rfl (zt_icmp_le rfl rfl (zt_aload_n rfl rfl (zt_iload rfl rfl (zt_aload_n rfl rfl (zt_iload rfl rfl (zt_iconst rfl (zt_isub rfl (zt_iald (mjkd193 _ _ _ _) (mjln193 _ _ _ _) rfl rfl (zt_iast (mjkd193 _ _ _ _) (mjln193 _ _ _ _) rfl rfl (zt_iinc rfl (Nat.le_of_ble_eq_true rfl) rfl rfl (zt_goto rfl))))))))))))))))))))
set_option maxRecDepth 100000 in
theorem f150_55 : mj_find (mj_P 150).2.2.2.2 55 = [(.aload_n 0, 1, 0, []), (.iload 4, 2, 0, []), (.aload_n 1, 1, 0, []), (.iload_n 3, 1, 0, []), (.iaload, 1, 0, []), (.iastore, 1, 0, []), (.iinc 3 1, 3, 1, []), (.goto (-63), 3, 0, [2])] := rfl
set_option maxRecDepth 100000 in
theorem q150_55 (E : mj_E) (d w c : Nat) (hi : Nat → Nat → Int32) (hl : Nat → Nat → Int64) (v2 : Int32) (v3 : Int32) (v4 : Int32) : mj_den mj_P E d 150 55 [Value.ref 204, Value.ref 3, Value.int v2, Value.int v3, Value.int v4] [] (mj_hw w c hi hl) = if 0 ≤ v3 ∧ (v3).toNatClampNeg < 10 then if 0 ≤ v4 ∧ (v4).toNatClampNeg < 10 then mj_den mj_P E d 150 2 [Value.ref 204, Value.ref 3, Value.int v2, Value.int (v3 + (1 : Int32)), Value.int v4] [] (mj_hw w c (mj_u hi 204 ((v4).toNatClampNeg) (hi 3 ((v3).toNatClampNeg))) hl) else none else none := by
  rw [mj_den_eq, f150_55]
  exact zt_aload_n rfl rfl (zt_iload rfl rfl (zt_aload_n rfl rfl (zt_iload_n rfl rfl (zt_iald (mjkd3 _ _ _ _) (mjln3 _ _ _ _) rfl rfl (zt_iast (mjkd204 _ _ _ _) (mjln204 _ _ _ _) rfl rfl (zt_iinc rfl (Nat.le_of_ble_eq_true rfl) rfl rfl (zt_goto rfl)))))))
set_option maxRecDepth 100000 in
theorem q150_55_1 (E : mj_E) (d w c : Nat) (hi : Nat → Nat → Int32) (hl : Nat → Nat → Int64) (v2 : Int32) (v3 : Int32) (v4 : Int32) : mj_den mj_P E d 150 55 [Value.ref 193, Value.ref 41, Value.int v2, Value.int v3, Value.int v4] [] (mj_hw w c hi hl) = if 0 ≤ v3 ∧ (v3).toNatClampNeg < 12 then if 0 ≤ v4 ∧ (v4).toNatClampNeg < 12 then mj_den mj_P E d 150 2 [Value.ref 193, Value.ref 41, Value.int v2, Value.int (v3 + (1 : Int32)), Value.int v4] [] (mj_hw w c (mj_u hi 193 ((v4).toNatClampNeg) (hi 41 ((v3).toNatClampNeg))) hl) else none else none := by
  rw [mj_den_eq, f150_55]
  exact zt_aload_n rfl rfl (zt_iload rfl rfl (zt_aload_n rfl rfl (zt_iload_n rfl rfl (zt_iald (mjkd41 _ _ _ _) (mjln41 _ _ _ _) rfl rfl (zt_iast (mjkd193 _ _ _ _) (mjln193 _ _ _ _) rfl rfl (zt_iinc rfl (Nat.le_of_ble_eq_true rfl) rfl rfl (zt_goto rfl)))))))
set_option maxRecDepth 100000 in
theorem f150_68 : mj_find (mj_P 150).2.2.2.2 68 = [(.return_, 1, 0, [])] := rfl
set_option maxRecDepth 100000 in
theorem q150_68 (E : mj_E) (d w c : Nat) (hi : Nat → Nat → Int32) (hl : Nat → Nat → Int64) (v2 : Int32) (v3 : Int32) (v4 : Int32) : mj_den mj_P E d 150 68 [Value.ref 204, Value.ref 3, Value.int v2, Value.int v3, Value.int v4] [] (mj_hw w c hi hl) = some (none, (mj_hw w c hi hl)) := by
  rw [mj_den_eq, f150_68]
  exact zt_return
set_option maxRecDepth 100000 in
theorem q150_68_1 (E : mj_E) (d w c : Nat) (hi : Nat → Nat → Int32) (hl : Nat → Nat → Int64) (v2 : Int32) (v3 : Int32) : mj_den mj_P E d 150 68 [Value.ref 204, Value.ref 3, Value.int v2, Value.int v3, Value.float 0] [] (mj_hw w c hi hl) = some (none, (mj_hw w c hi hl)) := by
  rw [mj_den_eq, f150_68]
  exact zt_return
set_option maxRecDepth 100000 in
theorem q150_68_2 (E : mj_E) (d w c : Nat) (hi : Nat → Nat → Int32) (hl : Nat → Nat → Int64) (v2 : Int32) (v3 : Int32) (v4 : Int32) : mj_den mj_P E d 150 68 [Value.ref 193, Value.ref 41, Value.int v2, Value.int v3, Value.int v4] [] (mj_hw w c hi hl) = some (none, (mj_hw w c hi hl)) := by
  rw [mj_den_eq, f150_68]
  exact zt_return
set_option maxRecDepth 100000 in
theorem q150_68_3 (E : mj_E) (d w c : Nat) (hi : Nat → Nat → Int32) (hl : Nat → Nat → Int64) (v2 : Int32) (v3 : Int32) : mj_den mj_P E d 150 68 [Value.ref 193, Value.ref 41, Value.int v2, Value.int v3, Value.float 0] [] (mj_hw w c hi hl) = some (none, (mj_hw w c hi hl)) := by
  rw [mj_den_eq, f150_68]
  exact zt_return
set_option maxRecDepth 100000 in
theorem f152_0 : mj_find (mj_P 152).2.2.2.2 0 = [(.iload_n 1, 1, 0, []), (.iload_n 2, 1, 0, []), (.if_icmp .lt 12, 3, 0, [14]), (.iload_n 1, 1, 0, []), (.iload_n 3, 1, 0, []), (.if_icmp .gt 7, 3, 0, [14]), (.iconst 1, 1, 1, []), (.goto 4, 3, 0, [15])] := rfl
set_option maxRecDepth 100000 in
theorem q152_0 (E : mj_E) (d w c : Nat) (hi : Nat → Nat → Int32) (hl : Nat → Nat → Int64) (v1 : Int32) (v2 : Int32) (v3 : Int32) : mj_den mj_P E d 152 0 [Value.ref 205, Value.int v1, Value.int v2, Value.int v3] [] (mj_hw w c hi hl) = if v1 < v2 then mj_den mj_P E d 152 14 [Value.ref 205, Value.int v1, Value.int v2, Value.int v3] [] (mj_hw w c hi hl) else if v3 < v1 then mj_den mj_P E d 152 14 [Value.ref 205, Value.int v1, Value.int v2, Value.int v3] [] (mj_hw w c hi hl) else mj_den mj_P E d 152 15 [Value.ref 205, Value.int v1, Value.int v2, Value.int v3] [Value.int (1 : Int32)] (mj_hw w c hi hl) := by
  rw [mj_den_eq, f152_0]
  exact zt_iload_n rfl rfl (zt_iload_n rfl rfl (zt_icmp_lt rfl rfl (zt_iload_n rfl rfl (zt_iload_n rfl rfl (zt_icmp_gt rfl rfl (zt_iconst rfl (zt_goto rfl)))))))
set_option maxRecDepth 100000 in
theorem f152_14 : mj_find (mj_P 152).2.2.2.2 14 = [(.iconst 0, 1, 0, [])] := rfl
set_option maxRecDepth 100000 in
theorem q152_14 (E : mj_E) (d w c : Nat) (hi : Nat → Nat → Int32) (hl : Nat → Nat → Int64) (v1 : Int32) (v2 : Int32) (v3 : Int32) : mj_den mj_P E d 152 14 [Value.ref 205, Value.int v1, Value.int v2, Value.int v3] [] (mj_hw w c hi hl) = mj_den mj_P E d 152 15 [Value.ref 205, Value.int v1, Value.int v2, Value.int v3] [Value.int (0 : Int32)] (mj_hw w c hi hl) := by
  rw [mj_den_eq, f152_14]
  exact zt_iconst rfl (zt_end rfl)
set_option maxRecDepth 100000 in
theorem f152_15 : mj_find (mj_P 152).2.2.2.2 15 = [(.ireturn, 1, 0, [1])] := rfl
set_option maxRecDepth 100000 in
theorem q152_15 (E : mj_E) (d w c : Nat) (hi : Nat → Nat → Int32) (hl : Nat → Nat → Int64) (v1 : Int32) (v2 : Int32) (v3 : Int32) (s0 : Int32) : mj_den mj_P E d 152 15 [Value.ref 205, Value.int v1, Value.int v2, Value.int v3] [Value.int s0] (mj_hw w c hi hl) = if s0 = 0 ∨ s0 = 1 then some (some (Value.int s0), (mj_hw w c hi hl)) else none := by
  rw [mj_den_eq, f152_15]
  exact zt_ireturn1
set_option maxRecDepth 100000 in
theorem f153_0 : mj_find (mj_P 153).2.2.2.2 0 = [(.iload_n 1, 1, 0, []), (.iload_n 2, 1, 0, []), (.if_icmp .ge 7, 3, 0, [9]), (.iload_n 2, 1, 0, []), (.goto 13, 3, 0, [19])] := rfl
set_option maxRecDepth 100000 in
theorem q153_0 (E : mj_E) (d w c : Nat) (hi : Nat → Nat → Int32) (hl : Nat → Nat → Int64) (v1 : Int32) (v2 : Int32) (v3 : Int32) : mj_den mj_P E d 153 0 [Value.ref 205, Value.int v1, Value.int v2, Value.int v3] [] (mj_hw w c hi hl) = if v2 ≤ v1 then mj_den mj_P E d 153 9 [Value.ref 205, Value.int v1, Value.int v2, Value.int v3] [] (mj_hw w c hi hl) else mj_den mj_P E d 153 19 [Value.ref 205, Value.int v1, Value.int v2, Value.int v3] [Value.int v2] (mj_hw w c hi hl) := by
  rw [mj_den_eq, f153_0]
  exact zt_iload_n rfl rfl (zt_iload_n rfl rfl (zt_icmp_ge rfl rfl (zt_iload_n rfl rfl (zt_goto rfl))))
set_option maxRecDepth 100000 in
theorem f153_9 : mj_find (mj_P 153).2.2.2.2 9 = [(.iload_n 1, 1, 0, []), (.iload_n 3, 1, 0, []), (.if_icmp .le 7, 3, 0, [18]), (.iload_n 3, 1, 0, []), (.goto 4, 3, 0, [19])] := rfl
set_option maxRecDepth 100000 in
theorem q153_9 (E : mj_E) (d w c : Nat) (hi : Nat → Nat → Int32) (hl : Nat → Nat → Int64) (v1 : Int32) (v2 : Int32) (v3 : Int32) : mj_den mj_P E d 153 9 [Value.ref 205, Value.int v1, Value.int v2, Value.int v3] [] (mj_hw w c hi hl) = if v1 ≤ v3 then mj_den mj_P E d 153 18 [Value.ref 205, Value.int v1, Value.int v2, Value.int v3] [] (mj_hw w c hi hl) else mj_den mj_P E d 153 19 [Value.ref 205, Value.int v1, Value.int v2, Value.int v3] [Value.int v3] (mj_hw w c hi hl) := by
  rw [mj_den_eq, f153_9]
  exact zt_iload_n rfl rfl (zt_iload_n rfl rfl (zt_icmp_le rfl rfl (zt_iload_n rfl rfl (zt_goto rfl))))
set_option maxRecDepth 100000 in
theorem f153_18 : mj_find (mj_P 153).2.2.2.2 18 = [(.iload_n 1, 1, 0, [])] := rfl
set_option maxRecDepth 100000 in
theorem q153_18 (E : mj_E) (d w c : Nat) (hi : Nat → Nat → Int32) (hl : Nat → Nat → Int64) (v1 : Int32) (v2 : Int32) (v3 : Int32) : mj_den mj_P E d 153 18 [Value.ref 205, Value.int v1, Value.int v2, Value.int v3] [] (mj_hw w c hi hl) = mj_den mj_P E d 153 19 [Value.ref 205, Value.int v1, Value.int v2, Value.int v3] [Value.int v1] (mj_hw w c hi hl) := by
  rw [mj_den_eq, f153_18]
  exact zt_iload_n rfl rfl (zt_end rfl)
set_option maxRecDepth 100000 in
theorem f153_19 : mj_find (mj_P 153).2.2.2.2 19 = [(.ireturn, 1, 0, [0])] := rfl
set_option maxRecDepth 100000 in
theorem q153_19 (E : mj_E) (d w c : Nat) (hi : Nat → Nat → Int32) (hl : Nat → Nat → Int64) (v1 : Int32) (v2 : Int32) (v3 : Int32) (s0 : Int32) : mj_den mj_P E d 153 19 [Value.ref 205, Value.int v1, Value.int v2, Value.int v3] [Value.int s0] (mj_hw w c hi hl) = some (some (Value.int s0), (mj_hw w c hi hl)) := by
  rw [mj_den_eq, f153_19]
  exact zt_ireturn0
set_option maxRecDepth 100000 in
theorem f154_0 : mj_find (mj_P 154).2.2.2.2 0 = [(.iload_n 1, 1, 0, []), (.iload_n 2, 1, 0, []), (.if_icmp .le 7, 3, 0, [9]), (.iload_n 1, 1, 0, []), (.goto 4, 3, 0, [10])] := rfl
set_option maxRecDepth 100000 in
theorem q154_0 (E : mj_E) (d w c : Nat) (hi : Nat → Nat → Int32) (hl : Nat → Nat → Int64) (v1 : Int32) (v2 : Int32) : mj_den mj_P E d 154 0 [Value.ref 205, Value.int v1, Value.int v2] [] (mj_hw w c hi hl) = if v1 ≤ v2 then mj_den mj_P E d 154 9 [Value.ref 205, Value.int v1, Value.int v2] [] (mj_hw w c hi hl) else mj_den mj_P E d 154 10 [Value.ref 205, Value.int v1, Value.int v2] [Value.int v1] (mj_hw w c hi hl) := by
  rw [mj_den_eq, f154_0]
  exact zt_iload_n rfl rfl (zt_iload_n rfl rfl (zt_icmp_le rfl rfl (zt_iload_n rfl rfl (zt_goto rfl))))
set_option maxRecDepth 100000 in
theorem f154_9 : mj_find (mj_P 154).2.2.2.2 9 = [(.iload_n 2, 1, 0, [])] := rfl
set_option maxRecDepth 100000 in
theorem q154_9 (E : mj_E) (d w c : Nat) (hi : Nat → Nat → Int32) (hl : Nat → Nat → Int64) (v1 : Int32) (v2 : Int32) : mj_den mj_P E d 154 9 [Value.ref 205, Value.int v1, Value.int v2] [] (mj_hw w c hi hl) = mj_den mj_P E d 154 10 [Value.ref 205, Value.int v1, Value.int v2] [Value.int v2] (mj_hw w c hi hl) := by
  rw [mj_den_eq, f154_9]
  exact zt_iload_n rfl rfl (zt_end rfl)
set_option maxRecDepth 100000 in
theorem f154_10 : mj_find (mj_P 154).2.2.2.2 10 = [(.ireturn, 1, 0, [0])] := rfl
set_option maxRecDepth 100000 in
theorem q154_10 (E : mj_E) (d w c : Nat) (hi : Nat → Nat → Int32) (hl : Nat → Nat → Int64) (v1 : Int32) (v2 : Int32) (s0 : Int32) : mj_den mj_P E d 154 10 [Value.ref 205, Value.int v1, Value.int v2] [Value.int s0] (mj_hw w c hi hl) = some (some (Value.int s0), (mj_hw w c hi hl)) := by
  rw [mj_den_eq, f154_10]
  exact zt_ireturn0
set_option maxRecDepth 100000 in
theorem f155_0 : mj_find (mj_P 155).2.2.2.2 0 = [(.iload_n 1, 1, 0, []), (.iload_n 2, 1, 0, []), (.if_icmp .ge 7, 3, 0, [9]), (.iload_n 1, 1, 0, []), (.goto 4, 3, 0, [10])] := rfl
set_option maxRecDepth 100000 in
theorem q155_0 (E : mj_E) (d w c : Nat) (hi : Nat → Nat → Int32) (hl : Nat → Nat → Int64) (v1 : Int32) (v2 : Int32) : mj_den mj_P E d 155 0 [Value.ref 205, Value.int v1, Value.int v2] [] (mj_hw w c hi hl) = if v2 ≤ v1 then mj_den mj_P E d 155 9 [Value.ref 205, Value.int v1, Value.int v2] [] (mj_hw w c hi hl) else mj_den mj_P E d 155 10 [Value.ref 205, Value.int v1, Value.int v2] [Value.int v1] (mj_hw w c hi hl) := by
  rw [mj_den_eq, f155_0]
  exact zt_iload_n rfl rfl (zt_iload_n rfl rfl (zt_icmp_ge rfl rfl (zt_iload_n rfl rfl (zt_goto rfl))))
set_option maxRecDepth 100000 in
theorem f155_9 : mj_find (mj_P 155).2.2.2.2 9 = [(.iload_n 2, 1, 0, [])] := rfl
set_option maxRecDepth 100000 in
theorem q155_9 (E : mj_E) (d w c : Nat) (hi : Nat → Nat → Int32) (hl : Nat → Nat → Int64) (v1 : Int32) (v2 : Int32) : mj_den mj_P E d 155 9 [Value.ref 205, Value.int v1, Value.int v2] [] (mj_hw w c hi hl) = mj_den mj_P E d 155 10 [Value.ref 205, Value.int v1, Value.int v2] [Value.int v2] (mj_hw w c hi hl) := by
  rw [mj_den_eq, f155_9]
  exact zt_iload_n rfl rfl (zt_end rfl)
set_option maxRecDepth 100000 in
theorem f155_10 : mj_find (mj_P 155).2.2.2.2 10 = [(.ireturn, 1, 0, [0])] := rfl
set_option maxRecDepth 100000 in
theorem q155_10 (E : mj_E) (d w c : Nat) (hi : Nat → Nat → Int32) (hl : Nat → Nat → Int64) (v1 : Int32) (v2 : Int32) (s0 : Int32) : mj_den mj_P E d 155 10 [Value.ref 205, Value.int v1, Value.int v2] [Value.int s0] (mj_hw w c hi hl) = some (some (Value.int s0), (mj_hw w c hi hl)) := by
  rw [mj_den_eq, f155_10]
  exact zt_ireturn0
set_option maxRecDepth 100000 in
theorem f156_0 : mj_find (mj_P 156).2.2.2.2 0 = [(.iconst 0, 1, 0, []), (.istore_n 2, 1, 0, []), (.iload_n 1, 1, 0, []), (.istore_n 3, 1, 0, [])] := rfl
set_option maxRecDepth 100000 in
theorem q156_0 (E : mj_E) (d w c : Nat) (hi : Nat → Nat → Int32) (hl : Nat → Nat → Int64) (v1 : Int32) : mj_den mj_P E d 156 0 [Value.ref 205, Value.int v1, Value.float 0, Value.float 0] [] (mj_hw w c hi hl) = mj_den mj_P E d 156 4 [Value.ref 205, Value.int v1, Value.int (0 : Int32), Value.int v1] [] (mj_hw w c hi hl) := by
  rw [mj_den_eq, f156_0]
  exact zt_iconst rfl (zt_istore_n (Nat.le_of_ble_eq_true rfl) rfl rfl (zt_iload_n rfl rfl (zt_istore_n (Nat.le_of_ble_eq_true rfl) rfl rfl (zt_end rfl))))
set_option maxRecDepth 100000 in
theorem f156_4 : mj_find (mj_P 156).2.2.2.2 4 = [(.iload_n 3, 1, 0, []), (.ifCond .eq 16, 3, 0, [21]), (.iload_n 2, 1, 0, []), (.iconst 1, 1, 1, []), (.iadd, 1, 0, []), (.istore_n 2, 1, 0, []), (.iload_n 3, 1, 0, []), (.iload_n 3, 1, 0, []), (.iconst 1, 1, 1, []), (.isub, 1, 0, []), (.iand, 1, 0, []), (.istore_n 3, 1, 0, []), (.goto (-14), 3, 0, [4])] := rfl
set_option maxRecDepth 100000 in
theorem q156_4 (E : mj_E) (d w c : Nat) (hi : Nat → Nat → Int32) (hl : Nat → Nat → Int64) (v1 : Int32) (v2 : Int32) (v3 : Int32) : mj_den mj_P E d 156 4 [Value.ref 205, Value.int v1, Value.int v2, Value.int v3] [] (mj_hw w c hi hl) = if v3 = 0 then mj_den mj_P E d 156 21 [Value.ref 205, Value.int v1, Value.int v2, Value.int v3] [] (mj_hw w c hi hl) else mj_den mj_P E d 156 4 [Value.ref 205, Value.int v1, Value.int (v2 + (1 : Int32)), Value.int (v3 &&& (v3 - (1 : Int32)))] [] (mj_hw w c hi hl) := by
  rw [mj_den_eq, f156_4]
  exact zt_iload_n rfl rfl (zt_if_eq rfl rfl (zt_iload_n rfl rfl (zt_iconst rfl (zt_iadd rfl (zt_istore_n (Nat.le_of_ble_eq_true rfl) rfl rfl (zt_iload_n rfl rfl (zt_iload_n rfl rfl (zt_iconst rfl (zt_isub rfl (zt_iand rfl (zt_istore_n (Nat.le_of_ble_eq_true rfl) rfl rfl (zt_goto rfl))))))))))))
set_option maxRecDepth 100000 in
theorem f156_21 : mj_find (mj_P 156).2.2.2.2 21 = [(.iload_n 2, 1, 0, []), (.ireturn, 1, 0, [0])] := rfl
set_option maxRecDepth 100000 in
theorem q156_21 (E : mj_E) (d w c : Nat) (hi : Nat → Nat → Int32) (hl : Nat → Nat → Int64) (v1 : Int32) (v2 : Int32) (v3 : Int32) : mj_den mj_P E d 156 21 [Value.ref 205, Value.int v1, Value.int v2, Value.int v3] [] (mj_hw w c hi hl) = some (some (Value.int v2), (mj_hw w c hi hl)) := by
  rw [mj_den_eq, f156_21]
  exact zt_iload_n rfl rfl (zt_ireturn0)
set_option maxRecDepth 100000 in
theorem f157_0 : mj_find (mj_P 157).2.2.2.2 0 = [(.iload_n 1, 1, 0, []), (.iload_n 2, 1, 0, []), (.ishr, 1, 0, []), (.iconst 1, 1, 1, []), (.iand, 1, 0, []), (.iconst 1, 1, 1, []), (.if_icmp .ne 7, 3, 0, [13]), (.iconst 1, 1, 1, []), (.goto 4, 3, 0, [14])] := rfl
set_option maxRecDepth 100000 in
theorem q157_0 (E : mj_E) (d w c : Nat) (hi : Nat → Nat → Int32) (hl : Nat → Nat → Int64) (v1 : Int32) (v2 : Int32) : mj_den mj_P E d 157 0 [Value.ref 205, Value.int v1, Value.int v2] [] (mj_hw w c hi hl) = if ¬ ((v1 >>> (v2 &&& 31)) &&& (1 : Int32)) = (1 : Int32) then mj_den mj_P E d 157 13 [Value.ref 205, Value.int v1, Value.int v2] [] (mj_hw w c hi hl) else mj_den mj_P E d 157 14 [Value.ref 205, Value.int v1, Value.int v2] [Value.int (1 : Int32)] (mj_hw w c hi hl) := by
  rw [mj_den_eq, f157_0]
  exact zt_iload_n rfl rfl (zt_iload_n rfl rfl (zt_ishr rfl (zt_iconst rfl (zt_iand rfl (zt_iconst rfl (zt_icmp_ne rfl rfl (zt_iconst rfl (zt_goto rfl))))))))
set_option maxRecDepth 100000 in
theorem f157_13 : mj_find (mj_P 157).2.2.2.2 13 = [(.iconst 0, 1, 0, [])] := rfl
set_option maxRecDepth 100000 in
theorem q157_13 (E : mj_E) (d w c : Nat) (hi : Nat → Nat → Int32) (hl : Nat → Nat → Int64) (v1 : Int32) (v2 : Int32) : mj_den mj_P E d 157 13 [Value.ref 205, Value.int v1, Value.int v2] [] (mj_hw w c hi hl) = mj_den mj_P E d 157 14 [Value.ref 205, Value.int v1, Value.int v2] [Value.int (0 : Int32)] (mj_hw w c hi hl) := by
  rw [mj_den_eq, f157_13]
  exact zt_iconst rfl (zt_end rfl)
set_option maxRecDepth 100000 in
theorem f157_14 : mj_find (mj_P 157).2.2.2.2 14 = [(.ireturn, 1, 0, [1])] := rfl
set_option maxRecDepth 100000 in
theorem q157_14 (E : mj_E) (d w c : Nat) (hi : Nat → Nat → Int32) (hl : Nat → Nat → Int64) (v1 : Int32) (v2 : Int32) (s0 : Int32) : mj_den mj_P E d 157 14 [Value.ref 205, Value.int v1, Value.int v2] [Value.int s0] (mj_hw w c hi hl) = if s0 = 0 ∨ s0 = 1 then some (some (Value.int s0), (mj_hw w c hi hl)) else none := by
  rw [mj_den_eq, f157_14]
  exact zt_ireturn1
set_option maxRecDepth 100000 in
theorem f158_0 : mj_find (mj_P 158).2.2.2.2 0 = [(.aload_n 0, 1, 0, []), (.getfield 125, 3, 0, [12, 3, 0, 1413]), (.bipush 6, 2, 6, []), (.if_icmp .ne 47, 3, 0, [53]), (.aload_n 0, 1, 0, []), (.aload_n 0, 1, 0, []), (.getfield 125, 3, 0, [12, 3, 0, 1413]), (.iconst 1, 1, 1, []), (.isub, 1, 0, []), (.putfield 125, 3, 0, [12, 3, 0, 1413]), (.iconst 0, 1, 0, []), (.istore_n 1, 1, 0, [])] := rfl
set_option maxRecDepth 100000 in
theorem q158_0 (E : mj_E) (d w c : Nat) (hi : Nat → Nat → Int32) (hl : Nat → Nat → Int64) : mj_den mj_P E d 158 0 [Value.ref 205, Value.float 0] [] (mj_hw w c hi hl) = if ¬ (hi 205 3) = (6 : Int32) then mj_den mj_P E d 158 53 [Value.ref 205, Value.float 0] [] (mj_hw w c hi hl) else mj_den mj_P E d 158 21 [Value.ref 205, Value.int (0 : Int32)] [] (mj_hw w c (mj_u hi 205 3 ((hi 205 3) - (1 : Int32))) hl) := by
  rw [mj_den_eq, f158_0]
  exact zt_aload_n rfl rfl (zt_geti (mjkd205 _ _ _ _) rfl rfl (zt_bipush rfl (zt_icmp_ne rfl rfl (zt_aload_n rfl rfl (zt_aload_n rfl rfl (zt_geti (mjkd205 _ _ _ _) rfl rfl (zt_iconst rfl (zt_isub rfl (zt_puti (mjkd205 _ _ _ _) rfl rfl (zt_iconst rfl (zt_istore_n (Nat.le_of_ble_eq_true rfl) rfl rfl (zt_end rfl))))))))))))
set_option maxRecDepth 100000 in
theorem f158_21 : mj_find (mj_P 158).2.2.2.2 21 = [(.iload_n 1, 1, 0, []), (.bipush 57, 2, 57, []), (.aload_n 0, 1, 0, []), (.getfield 125, 3, 0, [12, 3, 0, 1413]), (.imul, 1, 0, []), (.if_icmp .ge 24, 3, 0, [53]), (.aload_n 0, 1, 0, []), (.getfield 13, 3, 0, [12, 2, 3, 1412]), (.iload_n 1, 1, 0, []), (.aload_n 0, 1, 0, []), (.getfield 13, 3, 0, [12, 2, 3, 1412]), (.iload_n 1, 1, 0, []), (.bipush 57, 2, 57, []), (.iadd, 1, 0, []), (.iaload, 1, 0, []), (.iastore, 1, 0, []), (.iinc 1 1, 3, 1, []), (.goto (-29), 3, 0, [21])] := rfl
set_option maxRecDepth 100000 in
theorem q158_21 (E : mj_E) (d w c : Nat) (hi : Nat → Nat → Int32) (hl : Nat → Nat → Int64) (v1 : Int32) : mj_den mj_P E d 158 21 [Value.ref 205, Value.int v1] [] (mj_hw w c hi hl) = if ((57 : Int32) * (hi 205 3)) ≤ v1 then mj_den mj_P E d 158 53 [Value.ref 205, Value.int v1] [] (mj_hw w c hi hl) else if 0 ≤ (v1 + (57 : Int32)) ∧ ((v1 + (57 : Int32))).toNatClampNeg < 342 then if 0 ≤ v1 ∧ (v1).toNatClampNeg < 342 then mj_den mj_P E d 158 21 [Value.ref 205, Value.int (v1 + (1 : Int32))] [] (mj_hw w c (mj_u hi 207 ((v1).toNatClampNeg) (hi 207 (((v1 + (57 : Int32))).toNatClampNeg))) hl) else none else none := by
  rw [mj_den_eq, f158_21]
  exact zt_iload_n rfl rfl (zt_bipush rfl (zt_aload_n rfl rfl (zt_geti (mjkd205 _ _ _ _) rfl rfl (zt_imul rfl (zt_icmp_ge rfl rfl (zt_aload_n rfl rfl (zt_getr (mjkd205 _ _ _ _) (mjhr205_2 w c) rfl (zt_iload_n rfl rfl (zt_aload_n rfl rfl (zt_getr (mjkd205 _ _ _ _) (mjhr205_2 w c) rfl (zt_iload_n rfl rfl (zt_bipush rfl (zt_iadd rfl (zt_iald (mjkd207 _ _ _ _) (mjln207 _ _ _ _) rfl rfl (zt_iast (mjkd207 _ _ _ _) (mjln207 _ _ _ _) rfl rfl (zt_iinc rfl (Nat.le_of_ble_eq_true rfl) rfl rfl (zt_goto rfl)))))))))))))))))
set_option maxRecDepth 100000 in
theorem f158_53 : mj_find (mj_P 158).2.2.2.2 53 = [(.iconst 0, 1, 0, []), (.istore_n 1, 1, 0, [])] := rfl
set_option maxRecDepth 100000 in
theorem q158_53 (E : mj_E) (d w c : Nat) (hi : Nat → Nat → Int32) (hl : Nat → Nat → Int64) (v1 : Int32) : mj_den mj_P E d 158 53 [Value.ref 205, Value.int v1] [] (mj_hw w c hi hl) = mj_den mj_P E d 158 55 [Value.ref 205, Value.int (0 : Int32)] [] (mj_hw w c hi hl) := by
  rw [mj_den_eq, f158_53]
  exact zt_iconst rfl (zt_istore_n (Nat.le_of_ble_eq_true rfl) rfl rfl (zt_end rfl))
set_option maxRecDepth 100000 in
theorem q158_53_1 (E : mj_E) (d w c : Nat) (hi : Nat → Nat → Int32) (hl : Nat → Nat → Int64) : mj_den mj_P E d 158 53 [Value.ref 205, Value.float 0] [] (mj_hw w c hi hl) = mj_den mj_P E d 158 55 [Value.ref 205, Value.int (0 : Int32)] [] (mj_hw w c hi hl) := by
  rw [mj_den_eq, f158_53]
  exact zt_iconst rfl (zt_istore_n (Nat.le_of_ble_eq_true rfl) rfl rfl (zt_end rfl))
set_option maxRecDepth 100000 in
theorem f158_55 : mj_find (mj_P 158).2.2.2.2 55 = [(.iload_n 1, 1, 0, []), (.bipush 57, 2, 57, []), (.if_icmp .ge 29, 3, 0, [87]), (.aload_n 0, 1, 0, []), (.getfield 13, 3, 0, [12, 2, 3, 1412]), (.bipush 57, 2, 57, []), (.aload_n 0, 1, 0, []), (.getfield 125, 3, 0, [12, 3, 0, 1413]), (.imul, 1, 0, []), (.iload_n 1, 1, 0, []), (.iadd, 1, 0, []), (.aload_n 0, 1, 0, []), (.getfield 7, 3, 0, [12, 1, 3, 1411]), (.iload_n 1, 1, 0, []), (.iaload, 1, 0, []), (.iastore, 1, 0, []), (.iinc 1 1, 3, 1, []), (.goto (-29), 3, 0, [55])] := rfl
set_option maxRecDepth 100000 in
theorem q158_55 (E : mj_E) (d w c : Nat) (hi : Nat → Nat → Int32) (hl : Nat → Nat → Int64) (v1 : Int32) : mj_den mj_P E d 158 55 [Value.ref 205, Value.int v1] [] (mj_hw w c hi hl) = if (57 : Int32) ≤ v1 then mj_den mj_P E d 158 87 [Value.ref 205, Value.int v1] [] (mj_hw w c hi hl) else if 0 ≤ v1 ∧ (v1).toNatClampNeg < 57 then if 0 ≤ (((57 : Int32) * (hi 205 3)) + v1) ∧ ((((57 : Int32) * (hi 205 3)) + v1)).toNatClampNeg < 342 then mj_den mj_P E d 158 55 [Value.ref 205, Value.int (v1 + (1 : Int32))] [] (mj_hw w c (mj_u hi 207 (((((57 : Int32) * (hi 205 3)) + v1)).toNatClampNeg) (hi 206 ((v1).toNatClampNeg))) hl) else none else none := by
  rw [mj_den_eq, f158_55]
  exact zt_iload_n rfl rfl (zt_bipush rfl (zt_icmp_ge rfl rfl (zt_aload_n rfl rfl (zt_getr (mjkd205 _ _ _ _) (mjhr205_2 w c) rfl (zt_bipush rfl (zt_aload_n rfl rfl (zt_geti (mjkd205 _ _ _ _) rfl rfl (zt_imul rfl (zt_iload_n rfl rfl (zt_iadd rfl (zt_aload_n rfl rfl (zt_getr (mjkd205 _ _ _ _) (mjhr205_1 w c) rfl (zt_iload_n rfl rfl (zt_iald (mjkd206 _ _ _ _) (mjln206 _ _ _ _) rfl rfl (zt_iast (mjkd207 _ _ _ _) (mjln207 _ _ _ _) rfl rfl (zt_iinc rfl (Nat.le_of_ble_eq_true rfl) rfl rfl (zt_goto rfl)))))))))))))))))
set_option maxRecDepth 100000 in
theorem f158_87 : mj_find (mj_P 158).2.2.2.2 87 = [(.aload_n 0, 1, 0, []), (.aload_n 0, 1, 0, []), (.getfield 125, 3, 0, [12, 3, 0, 1413]), (.iconst 1, 1, 1, []), (.iadd, 1, 0, []), (.putfield 125, 3, 0, [12, 3, 0, 1413]), (.return_, 1, 0, [])] := rfl
set_option maxRecDepth 100000 in
theorem q158_87 (E : mj_E) (d w c : Nat) (hi : Nat → Nat → Int32) (hl : Nat → Nat → Int64) (v1 : Int32) : mj_den mj_P E d 158 87 [Value.ref 205, Value.int v1] [] (mj_hw w c hi hl) = some (none, (mj_hw w c (mj_u hi 205 3 ((hi 205 3) + (1 : Int32))) hl)) := by
  rw [mj_den_eq, f158_87]
  exact zt_aload_n rfl rfl (zt_aload_n rfl rfl (zt_geti (mjkd205 _ _ _ _) rfl rfl (zt_iconst rfl (zt_iadd rfl (zt_puti (mjkd205 _ _ _ _) rfl rfl (zt_return))))))
set_option maxRecDepth 100000 in
theorem f159_0 : mj_find (mj_P 159).2.2.2.2 0 = [(.aload_n 0, 1, 0, []), (.iconst 0, 1, 0, []), (.putfield 122, 3, 0, [12, 0, 0, 1410]), (.aload_n 0, 1, 0, []), (.getfield 125, 3, 0, [12, 3, 0, 1413]), (.ifCond .ne 5, 3, 0, [14]), (.iconst 0, 1, 0, []), (.ireturn, 1, 0, [1])] := rfl
set_option maxRecDepth 100000 in
theorem q159_0 (E : mj_E) (d w c : Nat) (hi : Nat → Nat → Int32) (hl : Nat → Nat → Int64) : mj_den mj_P E d 159 0 [Value.ref 205, Value.float 0] [] (mj_hw w c hi hl) = if ¬ (hi 205 3) = 0 then mj_den mj_P E d 159 14 [Value.ref 205, Value.float 0] [] (mj_hw w c (mj_u hi 205 0 (0 : Int32)) hl) else if (0 : Int32) = 0 ∨ (0 : Int32) = 1 then some (some (Value.int (0 : Int32)), (mj_hw w c (mj_u hi 205 0 (0 : Int32)) hl)) else none := by
  rw [mj_den_eq, f159_0]
  exact zt_aload_n rfl rfl (zt_iconst rfl (zt_puti (mjkd205 _ _ _ _) rfl rfl (zt_aload_n rfl rfl (zt_geti (mjkd205 _ _ _ _) rfl rfl (zt_if_ne rfl rfl (zt_iconst rfl (zt_ireturn1)))))))
set_option maxRecDepth 100000 in
theorem f159_14 : mj_find (mj_P 159).2.2.2.2 14 = [(.aload_n 0, 1, 0, []), (.aload_n 0, 1, 0, []), (.getfield 125, 3, 0, [12, 3, 0, 1413]), (.iconst 1, 1, 1, []), (.isub, 1, 0, []), (.putfield 125, 3, 0, [12, 3, 0, 1413]), (.iconst 0, 1, 0, []), (.istore_n 1, 1, 0, [])] := rfl
set_option maxRecDepth 100000 in
theorem q159_14 (E : mj_E) (d w c : Nat) (hi : Nat → Nat → Int32) (hl : Nat → Nat → Int64) : mj_den mj_P E d 159 14 [Value.ref 205, Value.float 0] [] (mj_hw w c hi hl) = mj_den mj_P E d 159 26 [Value.ref 205, Value.int (0 : Int32)] [] (mj_hw w c (mj_u hi 205 3 ((hi 205 3) - (1 : Int32))) hl) := by
  rw [mj_den_eq, f159_14]
  exact zt_aload_n rfl rfl (zt_aload_n rfl rfl (zt_geti (mjkd205 _ _ _ _) rfl rfl (zt_iconst rfl (zt_isub rfl (zt_puti (mjkd205 _ _ _ _) rfl rfl (zt_iconst rfl (zt_istore_n (Nat.le_of_ble_eq_true rfl) rfl rfl (zt_end rfl))))))))
set_option maxRecDepth 100000 in
theorem f159_26 : mj_find (mj_P 159).2.2.2.2 26 = [(.iload_n 1, 1, 0, []), (.bipush 57, 2, 57, []), (.if_icmp .ge 29, 3, 0, [58]), (.aload_n 0, 1, 0, []), (.getfield 7, 3, 0, [12, 1, 3, 1411]), (.iload_n 1, 1, 0, []), (.aload_n 0, 1, 0, []), (.getfield 13, 3, 0, [12, 2, 3, 1412]), (.bipush 57, 2, 57, []), (.aload_n 0, 1, 0, []), (.getfield 125, 3, 0, [12, 3, 0, 1413]), (.imul, 1, 0, []), (.iload_n 1, 1, 0, []), (.iadd, 1, 0, []), (.iaload, 1, 0, []), (.iastore, 1, 0, []), (.iinc 1 1, 3, 1, []), (.goto (-29), 3, 0, [26])] := rfl
set_option maxRecDepth 100000 in
theorem q159_26 (E : mj_E) (d w c : Nat) (hi : Nat → Nat → Int32) (hl : Nat → Nat → Int64) (v1 : Int32) : mj_den mj_P E d 159 26 [Value.ref 205, Value.int v1] [] (mj_hw w c hi hl) = if (57 : Int32) ≤ v1 then mj_den mj_P E d 159 58 [Value.ref 205, Value.int v1] [] (mj_hw w c hi hl) else if 0 ≤ (((57 : Int32) * (hi 205 3)) + v1) ∧ ((((57 : Int32) * (hi 205 3)) + v1)).toNatClampNeg < 342 then if 0 ≤ v1 ∧ (v1).toNatClampNeg < 57 then mj_den mj_P E d 159 26 [Value.ref 205, Value.int (v1 + (1 : Int32))] [] (mj_hw w c (mj_u hi 206 ((v1).toNatClampNeg) (hi 207 (((((57 : Int32) * (hi 205 3)) + v1)).toNatClampNeg))) hl) else none else none := by
  rw [mj_den_eq, f159_26]
  exact zt_iload_n rfl rfl (zt_bipush rfl (zt_icmp_ge rfl rfl (zt_aload_n rfl rfl (zt_getr (mjkd205 _ _ _ _) (mjhr205_1 w c) rfl (zt_iload_n rfl rfl (zt_aload_n rfl rfl (zt_getr (mjkd205 _ _ _ _) (mjhr205_2 w c) rfl (zt_bipush rfl (zt_aload_n rfl rfl (zt_geti (mjkd205 _ _ _ _) rfl rfl (zt_imul rfl (zt_iload_n rfl rfl (zt_iadd rfl (zt_iald (mjkd207 _ _ _ _) (mjln207 _ _ _ _) rfl rfl (zt_iast (mjkd206 _ _ _ _) (mjln206 _ _ _ _) rfl rfl (zt_iinc rfl (Nat.le_of_ble_eq_true rfl) rfl rfl (zt_goto rfl)))))))))))))))))
set_option maxRecDepth 100000 in
theorem f159_58 : mj_find (mj_P 159).2.2.2.2 58 = [(.iconst 1, 1, 1, []), (.ireturn, 1, 0, [1])] := rfl
set_option maxRecDepth 100000 in
theorem q159_58 (E : mj_E) (d w c : Nat) (hi : Nat → Nat → Int32) (hl : Nat → Nat → Int64) (v1 : Int32) : mj_den mj_P E d 159 58 [Value.ref 205, Value.int v1] [] (mj_hw w c hi hl) = if (1 : Int32) = 0 ∨ (1 : Int32) = 1 then some (some (Value.int (1 : Int32)), (mj_hw w c hi hl)) else none := by
  rw [mj_den_eq, f159_58]
  exact zt_iconst rfl (zt_ireturn1)
set_option maxRecDepth 100000 in
theorem f160_0 : mj_find (mj_P 160).2.2.2.2 0 = [(.iconst 0, 1, 0, []), (.istore_n 1, 1, 0, [])] := rfl
set_option maxRecDepth 100000 in
theorem q160_0 (E : mj_E) (d w c : Nat) (hi : Nat → Nat → Int32) (hl : Nat → Nat → Int64) : mj_den mj_P E d 160 0 [Value.ref 205, Value.float 0] [] (mj_hw w c hi hl) = mj_den mj_P E d 160 2 [Value.ref 205, Value.int (0 : Int32)] [] (mj_hw w c hi hl) := by
  rw [mj_den_eq, f160_0]
  exact zt_iconst rfl (zt_istore_n (Nat.le_of_ble_eq_true rfl) rfl rfl (zt_end rfl))
set_option maxRecDepth 100000 in
theorem f160_2 : mj_find (mj_P 160).2.2.2.2 2 = [(.iload_n 1, 1, 0, []), (.bipush 57, 2, 57, []), (.if_icmp .ge 21, 3, 0, [26]), (.aload_n 0, 1, 0, []), (.getfield 16, 3, 0, [12, 4, 3, 1414]), (.iload_n 1, 1, 0, []), (.aload_n 0, 1, 0, []), (.getfield 7, 3, 0, [12, 1, 3, 1411]), (.iload_n 1, 1, 0, []), (.iaload, 1, 0, []), (.iastore, 1, 0, []), (.iinc 1 1, 3, 1, []), (.goto (-21), 3, 0, [2])] := rfl
set_option maxRecDepth 100000 in
theorem q160_2 (E : mj_E) (d w c : Nat) (hi : Nat → Nat → Int32) (hl : Nat → Nat → Int64) (v1 : Int32) : mj_den mj_P E d 160 2 [Value.ref 205, Value.int v1] [] (mj_hw w c hi hl) = if (57 : Int32) ≤ v1 then mj_den mj_P E d 160 26 [Value.ref 205, Value.int v1] [] (mj_hw w c hi hl) else if 0 ≤ v1 ∧ (v1).toNatClampNeg < 57 then if 0 ≤ v1 ∧ (v1).toNatClampNeg < 57 then mj_den mj_P E d 160 2 [Value.ref 205, Value.int (v1 + (1 : Int32))] [] (mj_hw w c (mj_u hi 208 ((v1).toNatClampNeg) (hi 206 ((v1).toNatClampNeg))) hl) else none else none := by
  rw [mj_den_eq, f160_2]
  exact zt_iload_n rfl rfl (zt_bipush rfl (zt_icmp_ge rfl rfl (zt_aload_n rfl rfl (zt_getr (mjkd205 _ _ _ _) (mjhr205_4 w c) rfl (zt_iload_n rfl rfl (zt_aload_n rfl rfl (zt_getr (mjkd205 _ _ _ _) (mjhr205_1 w c) rfl (zt_iload_n rfl rfl (zt_iald (mjkd206 _ _ _ _) (mjln206 _ _ _ _) rfl rfl (zt_iast (mjkd208 _ _ _ _) (mjln208 _ _ _ _) rfl rfl (zt_iinc rfl (Nat.le_of_ble_eq_true rfl) rfl rfl (zt_goto rfl))))))))))))
set_option maxRecDepth 100000 in
theorem f160_26 : mj_find (mj_P 160).2.2.2.2 26 = [(.aload_n 0, 1, 0, []), (.iconst 1, 1, 1, []), (.putfield 128, 3, 0, [12, 5, 1, 1415]), (.return_, 1, 0, [])] := rfl
set_option maxRecDepth 100000 in
theorem q160_26 (E : mj_E) (d w c : Nat) (hi : Nat → Nat → Int32) (hl : Nat → Nat → Int64) (v1 : Int32) : mj_den mj_P E d 160 26 [Value.ref 205, Value.int v1] [] (mj_hw w c hi hl) = if (1 : Int32) = 0 ∨ (1 : Int32) = 1 then some (none, (mj_hw w c (mj_u hi 205 5 (1 : Int32)) hl)) else none := by
  rw [mj_den_eq, f160_26]
  exact zt_aload_n rfl rfl (zt_iconst rfl (zt_putz (mjkd205 _ _ _ _) rfl rfl (zt_return)))
set_option maxRecDepth 100000 in
theorem f161_0 : mj_find (mj_P 161).2.2.2.2 0 = [(.iconst 0, 1, 0, []), (.istore_n 1, 1, 0, [])] := rfl
set_option maxRecDepth 100000 in
theorem q161_0 (E : mj_E) (d w c : Nat) (hi : Nat → Nat → Int32) (hl : Nat → Nat → Int64) : mj_den mj_P E d 161 0 [Value.ref 205, Value.float 0] [] (mj_hw w c hi hl) = mj_den mj_P E d 161 2 [Value.ref 205, Value.int (0 : Int32)] [] (mj_hw w c hi hl) := by
  rw [mj_den_eq, f161_0]
  exact zt_iconst rfl (zt_istore_n (Nat.le_of_ble_eq_true rfl) rfl rfl (zt_end rfl))
set_option maxRecDepth 100000 in
theorem f161_2 : mj_find (mj_P 161).2.2.2.2 2 = [(.iload_n 1, 1, 0, []), (.bipush 57, 2, 57, []), (.if_icmp .ge 21, 3, 0, [26]), (.aload_n 0, 1, 0, []), (.getfield 7, 3, 0, [12, 1, 3, 1411]), (.iload_n 1, 1, 0, []), (.aload_n 0, 1, 0, []), (.getfield 16, 3, 0, [12, 4, 3, 1414]), (.iload_n 1, 1, 0, []), (.iaload, 1, 0, []), (.iastore, 1, 0, []), (.iinc 1 1, 3, 1, []), (.goto (-21), 3, 0, [2])] := rfl
set_option maxRecDepth 100000 in
theorem q161_2 (E : mj_E) (d w c : Nat) (hi : Nat → Nat → Int32) (hl : Nat → Nat → Int64) (v1 : Int32) : mj_den mj_P E d 161 2 [Value.ref 205, Value.int v1] [] (mj_hw w c hi hl) = if (57 : Int32) ≤ v1 then mj_den mj_P E d 161 26 [Value.ref 205, Value.int v1] [] (mj_hw w c hi hl) else if 0 ≤ v1 ∧ (v1).toNatClampNeg < 57 then if 0 ≤ v1 ∧ (v1).toNatClampNeg < 57 then mj_den mj_P E d 161 2 [Value.ref 205, Value.int (v1 + (1 : Int32))] [] (mj_hw w c (mj_u hi 206 ((v1).toNatClampNeg) (hi 208 ((v1).toNatClampNeg))) hl) else none else none := by
  rw [mj_den_eq, f161_2]
  exact zt_iload_n rfl rfl (zt_bipush rfl (zt_icmp_ge rfl rfl (zt_aload_n rfl rfl (zt_getr (mjkd205 _ _ _ _) (mjhr205_1 w c) rfl (zt_iload_n rfl rfl (zt_aload_n rfl rfl (zt_getr (mjkd205 _ _ _ _) (mjhr205_4 w c) rfl (zt_iload_n rfl rfl (zt_iald (mjkd208 _ _ _ _) (mjln208 _ _ _ _) rfl rfl (zt_iast (mjkd206 _ _ _ _) (mjln206 _ _ _ _) rfl rfl (zt_iinc rfl (Nat.le_of_ble_eq_true rfl) rfl rfl (zt_goto rfl))))))))))))
set_option maxRecDepth 100000 in
theorem f161_26 : mj_find (mj_P 161).2.2.2.2 26 = [(.aload_n 0, 1, 0, []), (.iconst 0, 1, 0, []), (.putfield 128, 3, 0, [12, 5, 1, 1415]), (.return_, 1, 0, [])] := rfl
set_option maxRecDepth 100000 in
theorem q161_26 (E : mj_E) (d w c : Nat) (hi : Nat → Nat → Int32) (hl : Nat → Nat → Int64) (v1 : Int32) : mj_den mj_P E d 161 26 [Value.ref 205, Value.int v1] [] (mj_hw w c hi hl) = if (0 : Int32) = 0 ∨ (0 : Int32) = 1 then some (none, (mj_hw w c (mj_u hi 205 5 (0 : Int32)) hl)) else none := by
  rw [mj_den_eq, f161_26]
  exact zt_aload_n rfl rfl (zt_iconst rfl (zt_putz (mjkd205 _ _ _ _) rfl rfl (zt_return)))
set_option maxRecDepth 100000 in
theorem f162_0 : mj_find (mj_P 162).2.2.2.2 0 = [(.aload_n 0, 1, 0, []), (.iconst 0, 1, 0, []), (.putfield 122, 3, 0, [12, 0, 0, 1410]), (.aload_n 0, 1, 0, []), (.getfield 7, 3, 0, [12, 1, 3, 1411]), (.iconst 1, 1, 1, []), (.iaload, 1, 0, []), (.istore_n 2, 1, 0, []), (.aload_n 0, 1, 0, []), (.getfield 7, 3, 0, [12, 1, 3, 1411]), (.iconst 1, 1, 1, []), (.iload_n 1, 1, 0, []), (.iastore, 1, 0, []), (.aload_n 0, 1, 0, []), (.iconst 0, 1, 0, []), (.putfield 125, 3, 0, [12, 3, 0, 1413]), (.iload_n 2, 1, 0, []), (.ireturn, 1, 0, [0])] := rfl
set_option maxRecDepth 100000 in
theorem q162_0 (E : mj_E) (d w c : Nat) (hi : Nat → Nat → Int32) (hl : Nat → Nat → Int64) (v1 : Int32) : mj_den mj_P E d 162 0 [Value.ref 205, Value.int v1, Value.float 0] [] (mj_hw w c hi hl) = if 0 ≤ (1 : Int32) ∧ ((1 : Int32)).toNatClampNeg < 57 then if 0 ≤ (1 : Int32) ∧ ((1 : Int32)).toNatClampNeg < 57 then some (some (Value.int (hi 206 (((1 : Int32)).toNatClampNeg))), (mj_hw w c (mj_u (mj_u (mj_u hi 205 0 (0 : Int32)) 206 (((1 : Int32)).toNatClampNeg) v1) 205 3 (0 : Int32)) hl)) else none else none := by
  rw [mj_den_eq, f162_0]
  exact zt_aload_n rfl rfl (zt_iconst rfl (zt_puti (mjkd205 _ _ _ _) rfl rfl (zt_aload_n rfl rfl (zt_getr (mjkd205 _ _ _ _) (mjhr205_1 w c) rfl (zt_iconst rfl (zt_iald (mjkd206 _ _ _ _) (mjln206 _ _ _ _) rfl rfl (zt_istore_n (Nat.le_of_ble_eq_true rfl) rfl rfl (zt_aload_n rfl rfl (zt_getr (mjkd205 _ _ _ _) (mjhr205_1 w c) rfl (zt_iconst rfl (zt_iload_n rfl rfl (zt_iast (mjkd206 _ _ _ _) (mjln206 _ _ _ _) rfl rfl (zt_aload_n rfl rfl (zt_iconst rfl (zt_puti (mjkd205 _ _ _ _) rfl rfl (zt_iload_n rfl rfl (zt_ireturn0)))))))))))))))))
set_option maxRecDepth 100000 in
theorem f163_0 : mj_find (mj_P 163).2.2.2.2 0 = [(.aload_n 0, 1, 0, []), (.getfield 7, 3, 0, [12, 1, 3, 1411]), (.iconst 1, 1, 1, []), (.ldc 132, 2, 1664525, [0, 1872]), (.aload_n 0, 1, 0, []), (.getfield 7, 3, 0, [12, 1, 3, 1411]), (.iconst 1, 1, 1, []), (.iaload, 1, 0, []), (.imul, 1, 0, []), (.ldc 133, 2, 1013904223, [0, 1873]), (.iadd, 1, 0, []), (.iastore, 1, 0, []), (.aload_n 0, 1, 0, []), (.getfield 7, 3, 0, [12, 1, 3, 1411]), (.iconst 1, 1, 1, []), (.iaload, 1, 0, []), (.bipush 8, 2, 8, []), (.iushr, 1, 0, []), (.iload_n 1, 1, 0, []), (.irem, 1, 0, []), (.ireturn, 1, 0, [0])] := rfl
set_option maxRecDepth 100000 in
theorem q163_0 (E : mj_E) (d w c : Nat) (hi : Nat → Nat → Int32) (hl : Nat → Nat → Int64) (v1 : Int32) : mj_den mj_P E d 163 0 [Value.ref 205, Value.int v1] [] (mj_hw w c hi hl) = if 0 ≤ (1 : Int32) ∧ ((1 : Int32)).toNatClampNeg < 57 then if 0 ≤ (1 : Int32) ∧ ((1 : Int32)).toNatClampNeg < 57 then if 0 ≤ (1 : Int32) ∧ ((1 : Int32)).toNatClampNeg < 57 then if v1 = 0 then none else some (some (Value.int (mj_rem (mj_ush ((mj_u hi 206 (((1 : Int32)).toNatClampNeg) (((1664525 : Int32) * (hi 206 (((1 : Int32)).toNatClampNeg))) + (1013904223 : Int32))) 206 (((1 : Int32)).toNatClampNeg)) (8 : Int32)) v1)), (mj_hw w c (mj_u hi 206 (((1 : Int32)).toNatClampNeg) (((1664525 : Int32) * (hi 206 (((1 : Int32)).toNatClampNeg))) + (1013904223 : Int32))) hl)) else none else none else none := by
  rw [mj_den_eq, f163_0]
  exact zt_aload_n rfl rfl (zt_getr (mjkd205 _ _ _ _) (mjhr205_1 w c) rfl (zt_iconst rfl (zt_ldc rfl (zt_aload_n rfl rfl (zt_getr (mjkd205 _ _ _ _) (mjhr205_1 w c) rfl (zt_iconst rfl (zt_iald (mjkd206 _ _ _ _) (mjln206 _ _ _ _) rfl rfl (zt_imul rfl (zt_ldc rfl (zt_iadd rfl (zt_iast (mjkd206 _ _ _ _) (mjln206 _ _ _ _) rfl rfl (zt_aload_n rfl rfl (zt_getr (mjkd205 _ _ _ _) (mjhr205_1 w c) rfl (zt_iconst rfl (zt_iald (mjkd206 _ _ _ _) (mjln206 _ _ _ _) rfl rfl (zt_bipush rfl (zt_iushr rfl (zt_iload_n rfl rfl (zt_irem  rfl (zt_ireturn0))))))))))))))))))))
set_option maxRecDepth 100000 in
theorem f164_0 : mj_find (mj_P 164).2.2.2.2 0 = [(.iload_n 1, 1, 0, []), (.ifCond .lt 15, 3, 0, [16]), (.iload_n 1, 1, 0, []), (.aload_n 0, 1, 0, []), (.getfield 134, 3, 0, [12, 6, 0, 1416]), (.if_icmp .ge 7, 3, 0, [16]), (.iconst 1, 1, 1, []), (.goto 4, 3, 0, [17])] := rfl
set_option maxRecDepth 100000 in
theorem q164_0 (E : mj_E) (d w c : Nat) (hi : Nat → Nat → Int32) (hl : Nat → Nat → Int64) (v1 : Int32) : mj_den mj_P E d 164 0 [Value.ref 205, Value.int v1] [] (mj_hw w c hi hl) = if v1 < 0 then mj_den mj_P E d 164 16 [Value.ref 205, Value.int v1] [] (mj_hw w c hi hl) else if (hi 205 6) ≤ v1 then mj_den mj_P E d 164 16 [Value.ref 205, Value.int v1] [] (mj_hw w c hi hl) else mj_den mj_P E d 164 17 [Value.ref 205, Value.int v1] [Value.int (1 : Int32)] (mj_hw w c hi hl) := by
  rw [mj_den_eq, f164_0]
  exact zt_iload_n rfl rfl (zt_if_lt rfl rfl (zt_iload_n rfl rfl (zt_aload_n rfl rfl (zt_geti (mjkd205 _ _ _ _) rfl rfl (zt_icmp_ge rfl rfl (zt_iconst rfl (zt_goto rfl)))))))
set_option maxRecDepth 100000 in
theorem f164_16 : mj_find (mj_P 164).2.2.2.2 16 = [(.iconst 0, 1, 0, [])] := rfl
set_option maxRecDepth 100000 in
theorem q164_16 (E : mj_E) (d w c : Nat) (hi : Nat → Nat → Int32) (hl : Nat → Nat → Int64) (v1 : Int32) : mj_den mj_P E d 164 16 [Value.ref 205, Value.int v1] [] (mj_hw w c hi hl) = mj_den mj_P E d 164 17 [Value.ref 205, Value.int v1] [Value.int (0 : Int32)] (mj_hw w c hi hl) := by
  rw [mj_den_eq, f164_16]
  exact zt_iconst rfl (zt_end rfl)
set_option maxRecDepth 100000 in
theorem f164_17 : mj_find (mj_P 164).2.2.2.2 17 = [(.ireturn, 1, 0, [1])] := rfl
set_option maxRecDepth 100000 in
theorem q164_17 (E : mj_E) (d w c : Nat) (hi : Nat → Nat → Int32) (hl : Nat → Nat → Int64) (v1 : Int32) (s0 : Int32) : mj_den mj_P E d 164 17 [Value.ref 205, Value.int v1] [Value.int s0] (mj_hw w c hi hl) = if s0 = 0 ∨ s0 = 1 then some (some (Value.int s0), (mj_hw w c hi hl)) else none := by
  rw [mj_den_eq, f164_17]
  exact zt_ireturn1
set_option maxRecDepth 100000 in
theorem f165_0 : mj_find (mj_P 165).2.2.2.2 0 = [(.iload_n 1, 1, 0, []), (.ifCond .lt 15, 3, 0, [16]), (.iload_n 1, 1, 0, []), (.aload_n 0, 1, 0, []), (.getfield 137, 3, 0, [12, 7, 0, 1417]), (.if_icmp .ge 7, 3, 0, [16]), (.iconst 1, 1, 1, []), (.goto 4, 3, 0, [17])] := rfl
set_option maxRecDepth 100000 in
theorem q165_0 (E : mj_E) (d w c : Nat) (hi : Nat → Nat → Int32) (hl : Nat → Nat → Int64) (v1 : Int32) : mj_den mj_P E d 165 0 [Value.ref 205, Value.int v1] [] (mj_hw w c hi hl) = if v1 < 0 then mj_den mj_P E d 165 16 [Value.ref 205, Value.int v1] [] (mj_hw w c hi hl) else if (hi 205 7) ≤ v1 then mj_den mj_P E d 165 16 [Value.ref 205, Value.int v1] [] (mj_hw w c hi hl) else mj_den mj_P E d 165 17 [Value.ref 205, Value.int v1] [Value.int (1 : Int32)] (mj_hw w c hi hl) := by
  rw [mj_den_eq, f165_0]
  exact zt_iload_n rfl rfl (zt_if_lt rfl rfl (zt_iload_n rfl rfl (zt_aload_n rfl rfl (zt_geti (mjkd205 _ _ _ _) rfl rfl (zt_icmp_ge rfl rfl (zt_iconst rfl (zt_goto rfl)))))))
set_option maxRecDepth 100000 in
theorem f165_16 : mj_find (mj_P 165).2.2.2.2 16 = [(.iconst 0, 1, 0, [])] := rfl
set_option maxRecDepth 100000 in
theorem q165_16 (E : mj_E) (d w c : Nat) (hi : Nat → Nat → Int32) (hl : Nat → Nat → Int64) (v1 : Int32) : mj_den mj_P E d 165 16 [Value.ref 205, Value.int v1] [] (mj_hw w c hi hl) = mj_den mj_P E d 165 17 [Value.ref 205, Value.int v1] [Value.int (0 : Int32)] (mj_hw w c hi hl) := by
  rw [mj_den_eq, f165_16]
  exact zt_iconst rfl (zt_end rfl)
set_option maxRecDepth 100000 in
theorem f165_17 : mj_find (mj_P 165).2.2.2.2 17 = [(.ireturn, 1, 0, [1])] := rfl
set_option maxRecDepth 100000 in
theorem q165_17 (E : mj_E) (d w c : Nat) (hi : Nat → Nat → Int32) (hl : Nat → Nat → Int64) (v1 : Int32) (s0 : Int32) : mj_den mj_P E d 165 17 [Value.ref 205, Value.int v1] [Value.int s0] (mj_hw w c hi hl) = if s0 = 0 ∨ s0 = 1 then some (some (Value.int s0), (mj_hw w c hi hl)) else none := by
  rw [mj_den_eq, f165_17]
  exact zt_ireturn1
set_option maxRecDepth 100000 in
theorem f166_0 : mj_find (mj_P 166).2.2.2.2 0 = [(.aload_n 0, 1, 0, []), (.getfield 7, 3, 0, [12, 1, 3, 1411]), (.bipush 45, 2, 45, []), (.iload_n 1, 1, 0, []), (.iadd, 1, 0, []), (.iaload, 1, 0, []), (.iconst 1, 1, 1, []), (.isub, 1, 0, []), (.ireturn, 1, 0, [0])] := rfl
set_option maxRecDepth 100000 in
theorem q166_0 (E : mj_E) (d w c : Nat) (hi : Nat → Nat → Int32) (hl : Nat → Nat → Int64) (v1 : Int32) : mj_den mj_P E d 166 0 [Value.ref 205, Value.int v1] [] (mj_hw w c hi hl) = if 0 ≤ ((45 : Int32) + v1) ∧ (((45 : Int32) + v1)).toNatClampNeg < 57 then some (some (Value.int ((hi 206 ((((45 : Int32) + v1)).toNatClampNeg)) - (1 : Int32))), (mj_hw w c hi hl)) else none := by
  rw [mj_den_eq, f166_0]
  exact zt_aload_n rfl rfl (zt_getr (mjkd205 _ _ _ _) (mjhr205_1 w c) rfl (zt_bipush rfl (zt_iload_n rfl rfl (zt_iadd rfl (zt_iald (mjkd206 _ _ _ _) (mjln206 _ _ _ _) rfl rfl (zt_iconst rfl (zt_isub rfl (zt_ireturn0))))))))
set_option maxRecDepth 100000 in
theorem f167_0 : mj_find (mj_P 167).2.2.2.2 0 = [(.iconst 0, 1, 0, []), (.istore_n 2, 1, 0, []), (.iconst 0, 1, 0, []), (.istore_n 3, 1, 0, [])] := rfl
set_option maxRecDepth 100000 in
theorem q167_0 (E : mj_E) (d w c : Nat) (hi : Nat → Nat → Int32) (hl : Nat → Nat → Int64) (v1 : Int32) : mj_den mj_P E d 167 0 [Value.ref 205, Value.int v1, Value.float 0, Value.float 0] [] (mj_hw w c hi hl) = mj_den mj_P E d 167 4 [Value.ref 205, Value.int v1, Value.int (0 : Int32), Value.int (0 : Int32)] [] (mj_hw w c hi hl) := by
  rw [mj_den_eq, f167_0]
  exact zt_iconst rfl (zt_istore_n (Nat.le_of_ble_eq_true rfl) rfl rfl (zt_iconst rfl (zt_istore_n (Nat.le_of_ble_eq_true rfl) rfl rfl (zt_end rfl))))
set_option maxRecDepth 100000 in
theorem f167_4 : mj_find (mj_P 167).2.2.2.2 4 = [(.iload_n 3, 1, 0, []), (.aload_n 0, 1, 0, []), (.getfield 137, 3, 0, [12, 7, 0, 1417]), (.if_icmp .ge 22, 3, 0, [31]), (.aload_n 0, 1, 0, []), (.iload_n 3, 1, 0, []), (.invokevirtual 140, 3, 0, [0, 166, 12, 1, 1, 1800, 1802, 79, 156, 1803])] := rfl
set_option maxRecDepth 100000 in
theorem q167_4 (E : mj_E) (d w c : Nat) (hi : Nat → Nat → Int32) (hl : Nat → Nat → Int64) (v1 : Int32) (v2 : Int32) (v3 : Int32) : mj_den mj_P E d 167 4 [Value.ref 205, Value.int v1, Value.int v2, Value.int v3] [] (mj_hw w c hi hl) = if (hi 205 7) ≤ v3 then mj_den mj_P E d 167 31 [Value.ref 205, Value.int v1, Value.int v2, Value.int v3] [] (mj_hw w c hi hl) else mj_bi (mj_dc mj_P E d 166 [Value.ref 205, Value.int v3] (mj_hw w c hi hl)) (fun x1 h1 => mj_den mj_P E d 167 17 [Value.ref 205, Value.int v1, Value.int v2, Value.int v3] [Value.int x1] h1) := by
  rw [mj_den_eq, f167_4]
  exact zt_iload_n rfl rfl (zt_aload_n rfl rfl (zt_geti (mjkd205 _ _ _ _) rfl rfl (zt_icmp_ge rfl rfl (zt_aload_n rfl rfl (zt_iload_n rfl rfl (zt_call0_1 rfl (mjkd205 _ _ _ _) (Nat.le_of_ble_eq_true rfl) rfl rfl))))))
set_option maxRecDepth 100000 in
theorem f167_17 : mj_find (mj_P 167).2.2.2.2 17 = [(.iload_n 1, 1, 0, []), (.if_icmp .ne 7, 3, 0, [25]), (.iload_n 2, 1, 0, []), (.iconst 1, 1, 1, []), (.iadd, 1, 0, []), (.istore_n 2, 1, 0, [])] := rfl
set_option maxRecDepth 100000 in
theorem q167_17 (E : mj_E) (d w c : Nat) (hi : Nat → Nat → Int32) (hl : Nat → Nat → Int64) (v1 : Int32) (v2 : Int32) (v3 : Int32) (s0 : Int32) : mj_den mj_P E d 167 17 [Value.ref 205, Value.int v1, Value.int v2, Value.int v3] [Value.int s0] (mj_hw w c hi hl) = if ¬ s0 = v1 then mj_den mj_P E d 167 25 [Value.ref 205, Value.int v1, Value.int v2, Value.int v3] [] (mj_hw w c hi hl) else mj_den mj_P E d 167 25 [Value.ref 205, Value.int v1, Value.int (v2 + (1 : Int32)), Value.int v3] [] (mj_hw w c hi hl) := by
  rw [mj_den_eq, f167_17]
  exact zt_iload_n rfl rfl (zt_icmp_ne rfl rfl (zt_iload_n rfl rfl (zt_iconst rfl (zt_iadd rfl (zt_istore_n (Nat.le_of_ble_eq_true rfl) rfl rfl (zt_end rfl))))))
set_option maxRecDepth 100000 in
theorem f167_25 : mj_find (mj_P 167).2.2.2.2 25 = [(.iinc 3 1, 3, 1, []), (.goto (-24), 3, 0, [4])] := rfl
set_option maxRecDepth 100000 in
theorem q167_25 (E : mj_E) (d w c : Nat) (hi : Nat → Nat → Int32) (hl : Nat → Nat → Int64) (v1 : Int32) (v2 : Int32) (v3 : Int32) : mj_den mj_P E d 167 25 [Value.ref 205, Value.int v1, Value.int v2, Value.int v3] [] (mj_hw w c hi hl) = mj_den mj_P E d 167 4 [Value.ref 205, Value.int v1, Value.int v2, Value.int (v3 + (1 : Int32))] [] (mj_hw w c hi hl) := by
  rw [mj_den_eq, f167_25]
  exact zt_iinc rfl (Nat.le_of_ble_eq_true rfl) rfl rfl (zt_goto rfl)
set_option maxRecDepth 100000 in
theorem f167_31 : mj_find (mj_P 167).2.2.2.2 31 = [(.iload_n 2, 1, 0, []), (.ireturn, 1, 0, [0])] := rfl
set_option maxRecDepth 100000 in
theorem q167_31 (E : mj_E) (d w c : Nat) (hi : Nat → Nat → Int32) (hl : Nat → Nat → Int64) (v1 : Int32) (v2 : Int32) (v3 : Int32) : mj_den mj_P E d 167 31 [Value.ref 205, Value.int v1, Value.int v2, Value.int v3] [] (mj_hw w c hi hl) = some (some (Value.int v2), (mj_hw w c hi hl)) := by
  rw [mj_den_eq, f167_31]
  exact zt_iload_n rfl rfl (zt_ireturn0)
set_option maxRecDepth 100000 in
theorem f168_0 : mj_find (mj_P 168).2.2.2.2 0 = [(.iconst 0, 1, 0, []), (.istore_n 1, 1, 0, []), (.iconst 0, 1, 0, []), (.istore_n 2, 1, 0, [])] := rfl
set_option maxRecDepth 100000 in
theorem q168_0 (E : mj_E) (d w c : Nat) (hi : Nat → Nat → Int32) (hl : Nat → Nat → Int64) : mj_den mj_P E d 168 0 [Value.ref 205, Value.float 0, Value.float 0] [] (mj_hw w c hi hl) = mj_den mj_P E d 168 4 [Value.ref 205, Value.int (0 : Int32), Value.int (0 : Int32)] [] (mj_hw w c hi hl) := by
  rw [mj_den_eq, f168_0]
  exact zt_iconst rfl (zt_istore_n (Nat.le_of_ble_eq_true rfl) rfl rfl (zt_iconst rfl (zt_istore_n (Nat.le_of_ble_eq_true rfl) rfl rfl (zt_end rfl))))
set_option maxRecDepth 100000 in
theorem f168_4 : mj_find (mj_P 168).2.2.2.2 4 = [(.iload_n 2, 1, 0, []), (.aload_n 0, 1, 0, []), (.getfield 134, 3, 0, [12, 6, 0, 1416]), (.if_icmp .ge 27, 3, 0, [36]), (.aload_n 0, 1, 0, []), (.getfield 7, 3, 0, [12, 1, 3, 1411]), (.bipush 25, 2, 25, []), (.iload_n 2, 1, 0, []), (.iadd, 1, 0, []), (.iaload, 1, 0, []), (.ifCond .ne 9, 3, 0, [30]), (.iload_n 1, 1, 0, []), (.iconst 1, 1, 1, []), (.iload_n 2, 1, 0, []), (.ishl, 1, 0, []), (.ior, 1, 0, []), (.istore_n 1, 1, 0, [])] := rfl
set_option maxRecDepth 100000 in
theorem q168_4 (E : mj_E) (d w c : Nat) (hi : Nat → Nat → Int32) (hl : Nat → Nat → Int64) (v1 : Int32) (v2 : Int32) : mj_den mj_P E d 168 4 [Value.ref 205, Value.int v1, Value.int v2] [] (mj_hw w c hi hl) = if (hi 205 6) ≤ v2 then mj_den mj_P E d 168 36 [Value.ref 205, Value.int v1, Value.int v2] [] (mj_hw w c hi hl) else if 0 ≤ ((25 : Int32) + v2) ∧ (((25 : Int32) + v2)).toNatClampNeg < 57 then if ¬ (hi 206 ((((25 : Int32) + v2)).toNatClampNeg)) = 0 then mj_den mj_P E d 168 30 [Value.ref 205, Value.int v1, Value.int v2] [] (mj_hw w c hi hl) else mj_den mj_P E d 168 30 [Value.ref 205, Value.int (v1 ||| ((1 : Int32) <<< (v2 &&& 31))), Value.int v2] [] (mj_hw w c hi hl) else none := by
  rw [mj_den_eq, f168_4]
  exact zt_iload_n rfl rfl (zt_aload_n rfl rfl (zt_geti (mjkd205 _ _ _ _) rfl rfl (zt_icmp_ge rfl rfl (zt_aload_n rfl rfl (zt_getr (mjkd205 _ _ _ _) (mjhr205_1 w c) rfl (zt_bipush rfl (zt_iload_n rfl rfl (zt_iadd rfl (zt_iald (mjkd206 _ _ _ _) (mjln206 _ _ _ _) rfl rfl (zt_if_ne rfl rfl (zt_iload_n rfl rfl (zt_iconst rfl (zt_iload_n rfl rfl (zt_ishl rfl (zt_ior rfl (zt_istore_n (Nat.le_of_ble_eq_true rfl) rfl rfl (zt_end rfl)))))))))))))))))
set_option maxRecDepth 100000 in
theorem f168_30 : mj_find (mj_P 168).2.2.2.2 30 = [(.iinc 2 1, 3, 1, []), (.goto (-29), 3, 0, [4])] := rfl
set_option maxRecDepth 100000 in
theorem q168_30 (E : mj_E) (d w c : Nat) (hi : Nat → Nat → Int32) (hl : Nat → Nat → Int64) (v1 : Int32) (v2 : Int32) : mj_den mj_P E d 168 30 [Value.ref 205, Value.int v1, Value.int v2] [] (mj_hw w c hi hl) = mj_den mj_P E d 168 4 [Value.ref 205, Value.int v1, Value.int (v2 + (1 : Int32))] [] (mj_hw w c hi hl) := by
  rw [mj_den_eq, f168_30]
  exact zt_iinc rfl (Nat.le_of_ble_eq_true rfl) rfl rfl (zt_goto rfl)
set_option maxRecDepth 100000 in
theorem f168_36 : mj_find (mj_P 168).2.2.2.2 36 = [(.iload_n 1, 1, 0, []), (.ireturn, 1, 0, [0])] := rfl
set_option maxRecDepth 100000 in
theorem q168_36 (E : mj_E) (d w c : Nat) (hi : Nat → Nat → Int32) (hl : Nat → Nat → Int64) (v1 : Int32) (v2 : Int32) : mj_den mj_P E d 168 36 [Value.ref 205, Value.int v1, Value.int v2] [] (mj_hw w c hi hl) = some (some (Value.int v1), (mj_hw w c hi hl)) := by
  rw [mj_den_eq, f168_36]
  exact zt_iload_n rfl rfl (zt_ireturn0)
set_option maxRecDepth 100000 in
theorem f169_0 : mj_find (mj_P 169).2.2.2.2 0 = [(.iconst 0, 1, 0, []), (.istore_n 1, 1, 0, []), (.iconst 0, 1, 0, []), (.istore_n 2, 1, 0, [])] := rfl
set_option maxRecDepth 100000 in
theorem q169_0 (E : mj_E) (d w c : Nat) (hi : Nat → Nat → Int32) (hl : Nat → Nat → Int64) : mj_den mj_P E d 169 0 [Value.ref 205, Value.float 0, Value.float 0] [] (mj_hw w c hi hl) = mj_den mj_P E d 169 4 [Value.ref 205, Value.int (0 : Int32), Value.int (0 : Int32)] [] (mj_hw w c hi hl) := by
  rw [mj_den_eq, f169_0]
  exact zt_iconst rfl (zt_istore_n (Nat.le_of_ble_eq_true rfl) rfl rfl (zt_iconst rfl (zt_istore_n (Nat.le_of_ble_eq_true rfl) rfl rfl (zt_end rfl))))
set_option maxRecDepth 100000 in
theorem f169_4 : mj_find (mj_P 169).2.2.2.2 4 = [(.iload_n 2, 1, 0, []), (.aload_n 0, 1, 0, []), (.getfield 134, 3, 0, [12, 6, 0, 1416]), (.if_icmp .ge 39, 3, 0, [48]), (.aload_n 0, 1, 0, []), (.getfield 7, 3, 0, [12, 1, 3, 1411]), (.bipush 25, 2, 25, []), (.iload_n 2, 1, 0, []), (.iadd, 1, 0, []), (.iaload, 1, 0, []), (.ifCond .ne 21, 3, 0, [42]), (.aload_n 0, 1, 0, []), (.getfield 7, 3, 0, [12, 1, 3, 1411]), (.bipush 15, 2, 15, []), (.iload_n 2, 1, 0, []), (.iadd, 1, 0, []), (.iaload, 1, 0, []), (.ifCond .le 9, 3, 0, [42]), (.iload_n 1, 1, 0, []), (.iconst 1, 1, 1, []), (.iload_n 2, 1, 0, []), (.ishl, 1, 0, []), (.ior, 1, 0, []), (.istore_n 1, 1, 0, [])] := rfl
set_option maxRecDepth 100000 in
theorem q169_4 (E : mj_E) (d w c : Nat) (hi : Nat → Nat → Int32) (hl : Nat → Nat → Int64) (v1 : Int32) (v2 : Int32) : mj_den mj_P E d 169 4 [Value.ref 205, Value.int v1, Value.int v2] [] (mj_hw w c hi hl) = if (hi 205 6) ≤ v2 then mj_den mj_P E d 169 48 [Value.ref 205, Value.int v1, Value.int v2] [] (mj_hw w c hi hl) else if 0 ≤ ((25 : Int32) + v2) ∧ (((25 : Int32) + v2)).toNatClampNeg < 57 then if ¬ (hi 206 ((((25 : Int32) + v2)).toNatClampNeg)) = 0 then mj_den mj_P E d 169 42 [Value.ref 205, Value.int v1, Value.int v2] [] (mj_hw w c hi hl) else if 0 ≤ ((15 : Int32) + v2) ∧ (((15 : Int32) + v2)).toNatClampNeg < 57 then if (hi 206 ((((15 : Int32) + v2)).toNatClampNeg)) ≤ 0 then mj_den mj_P E d 169 42 [Value.ref 205, Value.int v1, Value.int v2] [] (mj_hw w c hi hl) else mj_den mj_P E d 169 42 [Value.ref 205, Value.int (v1 ||| ((1 : Int32) <<< (v2 &&& 31))), Value.int v2] [] (mj_hw w c hi hl) else none else none := by
  rw [mj_den_eq, f169_4]
  exact zt_iload_n rfl rfl (zt_aload_n rfl rfl (zt_geti (mjkd205 _ _ _ _) rfl rfl (zt_icmp_ge rfl rfl (zt_aload_n rfl rfl (zt_getr (mjkd205 _ _ _ _) (mjhr205_1 w c) rfl (zt_bipush rfl (zt_iload_n rfl rfl (zt_iadd rfl (zt_iald (mjkd206 _ _ _ _) (mjln206 _ _ _ _) rfl rfl (zt_if_ne rfl rfl (zt_aload_n rfl rfl (zt_getr (mjkd205 _ _ _ _) (mjhr205_1 w c) rfl (zt_bipush rfl (zt_iload_n rfl rfl (zt_iadd rfl (zt_iald (mjkd206 _ _ _ _) (mjln206 _ _ _ _) rfl rfl (zt_if_le rfl rfl (zt_iload_n rfl rfl (zt_iconst rfl (zt_iload_n rfl rfl (zt_ishl rfl (zt_ior rfl (zt_istore_n (Nat.le_of_ble_eq_true rfl) rfl rfl (zt_end rfl))))))))))))))))))))))))
set_option maxRecDepth 100000 in
theorem f169_42 : mj_find (mj_P 169).2.2.2.2 42 = [(.iinc 2 1, 3, 1, []), (.goto (-41), 3, 0, [4])] := rfl
set_option maxRecDepth 100000 in
theorem q169_42 (E : mj_E) (d w c : Nat) (hi : Nat → Nat → Int32) (hl : Nat → Nat → Int64) (v1 : Int32) (v2 : Int32) : mj_den mj_P E d 169 42 [Value.ref 205, Value.int v1, Value.int v2] [] (mj_hw w c hi hl) = mj_den mj_P E d 169 4 [Value.ref 205, Value.int v1, Value.int (v2 + (1 : Int32))] [] (mj_hw w c hi hl) := by
  rw [mj_den_eq, f169_42]
  exact zt_iinc rfl (Nat.le_of_ble_eq_true rfl) rfl rfl (zt_goto rfl)
set_option maxRecDepth 100000 in
theorem f169_48 : mj_find (mj_P 169).2.2.2.2 48 = [(.iload_n 1, 1, 0, []), (.ireturn, 1, 0, [0])] := rfl
set_option maxRecDepth 100000 in
theorem q169_48 (E : mj_E) (d w c : Nat) (hi : Nat → Nat → Int32) (hl : Nat → Nat → Int64) (v1 : Int32) (v2 : Int32) : mj_den mj_P E d 169 48 [Value.ref 205, Value.int v1, Value.int v2] [] (mj_hw w c hi hl) = some (some (Value.int v1), (mj_hw w c hi hl)) := by
  rw [mj_den_eq, f169_48]
  exact zt_iload_n rfl rfl (zt_ireturn0)
set_option maxRecDepth 100000 in
theorem f170_0 : mj_find (mj_P 170).2.2.2.2 0 = [(.aload_n 0, 1, 0, []), (.iconst 0, 1, 0, []), (.putfield 122, 3, 0, [12, 0, 0, 1410]), (.aload_n 0, 1, 0, []), (.iload_n 1, 1, 0, []), (.iconst 0, 1, 0, []), (.bipush 99, 2, 99, []), (.invokevirtual 144, 3, 0, [0, 152, 12, 3, 1, 1624, 1626, 42, 156, 1627])] := rfl
set_option maxRecDepth 100000 in
theorem q170_0 (E : mj_E) (d w c : Nat) (hi : Nat → Nat → Int32) (hl : Nat → Nat → Int64) (v1 : Int32) (v2 : Int32) (v3 : Int32) (v4 : Int32) : mj_den mj_P E d 170 0 [Value.ref 205, Value.int v1, Value.int v2, Value.int v3, Value.int v4, Value.float 0] [] (mj_hw w c hi hl) = mj_bi (mj_dc mj_P E d 152 [Value.ref 205, Value.int v1, Value.int (0 : Int32), Value.int (99 : Int32)] (mj_hw w c (mj_u hi 205 0 (0 : Int32)) hl)) (fun x1 h1 => mj_den mj_P E d 170 13 [Value.ref 205, Value.int v1, Value.int v2, Value.int v3, Value.int v4, Value.float 0] [Value.int x1] h1) := by
  rw [mj_den_eq, f170_0]
  exact zt_aload_n rfl rfl (zt_iconst rfl (zt_puti (mjkd205 _ _ _ _) rfl rfl (zt_aload_n rfl rfl (zt_iload_n rfl rfl (zt_iconst rfl (zt_bipush rfl (zt_call0_1 rfl (mjkd205 _ _ _ _) (Nat.le_of_ble_eq_true rfl) rfl rfl)))))))
set_option maxRecDepth 100000 in
theorem f170_13 : mj_find (mj_P 170).2.2.2.2 13 = [(.ifCond .eq 35, 3, 0, [48]), (.aload_n 0, 1, 0, []), (.iload_n 2, 1, 0, []), (.iconst 0, 1, 0, []), (.bipush 9, 2, 9, []), (.invokevirtual 144, 3, 0, [0, 152, 12, 3, 1, 1624, 1626, 42, 156, 1627])] := rfl
set_option maxRecDepth 100000 in
theorem q170_13 (E : mj_E) (d w c : Nat) (hi : Nat → Nat → Int32) (hl : Nat → Nat → Int64) (v1 : Int32) (v2 : Int32) (v3 : Int32) (v4 : Int32) (s0 : Int32) : mj_den mj_P E d 170 13 [Value.ref 205, Value.int v1, Value.int v2, Value.int v3, Value.int v4, Value.float 0] [Value.int s0] (mj_hw w c hi hl) = if s0 = 0 then mj_den mj_P E d 170 48 [Value.ref 205, Value.int v1, Value.int v2, Value.int v3, Value.int v4, Value.float 0] [] (mj_hw w c hi hl) else mj_bi (mj_dc mj_P E d 152 [Value.ref 205, Value.int v2, Value.int (0 : Int32), Value.int (9 : Int32)] (mj_hw w c hi hl)) (fun x1 h1 => mj_den mj_P E d 170 24 [Value.ref 205, Value.int v1, Value.int v2, Value.int v3, Value.int v4, Value.float 0] [Value.int x1] h1) := by
  rw [mj_den_eq, f170_13]
  exact zt_if_eq rfl rfl (zt_aload_n rfl rfl (zt_iload_n rfl rfl (zt_iconst rfl (zt_bipush rfl (zt_call0_1 rfl (mjkd205 _ _ _ _) (Nat.le_of_ble_eq_true rfl) rfl rfl)))))
set_option maxRecDepth 100000 in
theorem f170_24 : mj_find (mj_P 170).2.2.2.2 24 = [(.ifCond .eq 24, 3, 0, [48]), (.aload_n 0, 1, 0, []), (.iload_n 3, 1, 0, []), (.iconst 0, 1, 0, []), (.sipush 9999, 3, 9999, []), (.invokevirtual 144, 3, 0, [0, 152, 12, 3, 1, 1624, 1626, 42, 156, 1627])] := rfl
set_option maxRecDepth 100000 in
theorem q170_24 (E : mj_E) (d w c : Nat) (hi : Nat → Nat → Int32) (hl : Nat → Nat → Int64) (v1 : Int32) (v2 : Int32) (v3 : Int32) (v4 : Int32) (s0 : Int32) : mj_den mj_P E d 170 24 [Value.ref 205, Value.int v1, Value.int v2, Value.int v3, Value.int v4, Value.float 0] [Value.int s0] (mj_hw w c hi hl) = if s0 = 0 then mj_den mj_P E d 170 48 [Value.ref 205, Value.int v1, Value.int v2, Value.int v3, Value.int v4, Value.float 0] [] (mj_hw w c hi hl) else mj_bi (mj_dc mj_P E d 152 [Value.ref 205, Value.int v3, Value.int (0 : Int32), Value.int (9999 : Int32)] (mj_hw w c hi hl)) (fun x1 h1 => mj_den mj_P E d 170 36 [Value.ref 205, Value.int v1, Value.int v2, Value.int v3, Value.int v4, Value.float 0] [Value.int x1] h1) := by
  rw [mj_den_eq, f170_24]
  exact zt_if_eq rfl rfl (zt_aload_n rfl rfl (zt_iload_n rfl rfl (zt_iconst rfl (zt_sipush rfl (zt_call0_1 rfl (mjkd205 _ _ _ _) (Nat.le_of_ble_eq_true rfl) rfl rfl)))))
set_option maxRecDepth 100000 in
theorem f170_36 : mj_find (mj_P 170).2.2.2.2 36 = [(.ifCond .eq 12, 3, 0, [48]), (.aload_n 0, 1, 0, []), (.getfield 134, 3, 0, [12, 6, 0, 1416]), (.bipush 10, 2, 10, []), (.if_icmp .ne 5, 3, 0, [50])] := rfl
set_option maxRecDepth 100000 in
theorem q170_36 (E : mj_E) (d w c : Nat) (hi : Nat → Nat → Int32) (hl : Nat → Nat → Int64) (v1 : Int32) (v2 : Int32) (v3 : Int32) (v4 : Int32) (s0 : Int32) : mj_den mj_P E d 170 36 [Value.ref 205, Value.int v1, Value.int v2, Value.int v3, Value.int v4, Value.float 0] [Value.int s0] (mj_hw w c hi hl) = if s0 = 0 then mj_den mj_P E d 170 48 [Value.ref 205, Value.int v1, Value.int v2, Value.int v3, Value.int v4, Value.float 0] [] (mj_hw w c hi hl) else if ¬ (hi 205 6) = (10 : Int32) then mj_den mj_P E d 170 50 [Value.ref 205, Value.int v1, Value.int v2, Value.int v3, Value.int v4, Value.float 0] [] (mj_hw w c hi hl) else mj_den mj_P E d 170 48 [Value.ref 205, Value.int v1, Value.int v2, Value.int v3, Value.int v4, Value.float 0] [] (mj_hw w c hi hl) := by
  rw [mj_den_eq, f170_36]
  exact zt_if_eq rfl rfl (zt_aload_n rfl rfl (zt_geti (mjkd205 _ _ _ _) rfl rfl (zt_bipush rfl (zt_icmp_ne rfl rfl (zt_end rfl)))))
set_option maxRecDepth 100000 in
theorem f170_48 : mj_find (mj_P 170).2.2.2.2 48 = [(.iconst (-1), 1, (-1), []), (.ireturn, 1, 0, [0])] := rfl
set_option maxRecDepth 100000 in
theorem q170_48 (E : mj_E) (d w c : Nat) (hi : Nat → Nat → Int32) (hl : Nat → Nat → Int64) (v1 : Int32) (v2 : Int32) (v3 : Int32) (v4 : Int32) : mj_den mj_P E d 170 48 [Value.ref 205, Value.int v1, Value.int v2, Value.int v3, Value.int v4, Value.float 0] [] (mj_hw w c hi hl) = some (some (Value.int (-1 : Int32)), (mj_hw w c hi hl)) := by
  rw [mj_den_eq, f170_48]
  exact zt_iconst rfl (zt_ireturn0)
set_option maxRecDepth 100000 in
theorem f170_50 : mj_find (mj_P 170).2.2.2.2 50 = [(.aload_n 0, 1, 0, []), (.getfield 134, 3, 0, [12, 6, 0, 1416]), (.istore 5, 2, 0, []), (.aload_n 0, 1, 0, []), (.getfield 7, 3, 0, [12, 1, 3, 1411]), (.iconst 5, 1, 5, []), (.iload 5, 2, 0, []), (.iadd, 1, 0, []), (.iload_n 1, 1, 0, []), (.iastore, 1, 0, []), (.aload_n 0, 1, 0, []), (.getfield 7, 3, 0, [12, 1, 3, 1411]), (.bipush 15, 2, 15, []), (.iload 5, 2, 0, []), (.iadd, 1, 0, []), (.iload_n 3, 1, 0, []), (.iastore, 1, 0, []), (.aload_n 0, 1, 0, []), (.getfield 7, 3, 0, [12, 1, 3, 1411]), (.bipush 25, 2, 25, []), (.iload 5, 2, 0, []), (.iadd, 1, 0, []), (.iconst 0, 1, 0, []), (.iastore, 1, 0, []), (.aload_n 0, 1, 0, []), (.getfield 7, 3, 0, [12, 1, 3, 1411]), (.bipush 35, 2, 35, []), (.iload 5, 2, 0, []), (.iadd, 1, 0, []), (.iconst 0, 1, 0, []), (.iastore, 1, 0, []), (.aload_n 0, 1, 0, []), (.getfield 19, 3, 0, [12, 8, 3, 1418]), (.iload 5, 2, 0, []), (.iload_n 2, 1, 0, []), (.iastore, 1, 0, []), (.aload_n 0, 1, 0, []), (.getfield 22, 3, 0, [12, 9, 3, 1419]), (.iload 5, 2, 0, []), (.iload 4, 2, 0, []), (.ifCond .eq 7, 3, 0, [122]), (.iconst 1, 1, 1, []), (.goto 4, 3, 0, [123])] := rfl
set_option maxRecDepth 100000 in
theorem q170_50 (E : mj_E) (d w c : Nat) (hi : Nat → Nat → Int32) (hl : Nat → Nat → Int64) (v1 : Int32) (v2 : Int32) (v3 : Int32) (v4 : Int32) : mj_den mj_P E d 170 50 [Value.ref 205, Value.int v1, Value.int v2, Value.int v3, Value.int v4, Value.float 0] [] (mj_hw w c hi hl) = if 0 ≤ ((5 : Int32) + (hi 205 6)) ∧ (((5 : Int32) + (hi 205 6))).toNatClampNeg < 57 then if 0 ≤ ((15 : Int32) + (hi 205 6)) ∧ (((15 : Int32) + (hi 205 6))).toNatClampNeg < 57 then if 0 ≤ ((25 : Int32) + (hi 205 6)) ∧ (((25 : Int32) + (hi 205 6))).toNatClampNeg < 57 then if 0 ≤ ((35 : Int32) + (hi 205 6)) ∧ (((35 : Int32) + (hi 205 6))).toNatClampNeg < 57 then if 0 ≤ (hi 205 6) ∧ ((hi 205 6)).toNatClampNeg < 10 then if v4 = 0 then mj_den mj_P E d 170 122 [Value.ref 205, Value.int v1, Value.int v2, Value.int v3, Value.int v4, Value.int (hi 205 6)] [Value.int (hi 205 6), Value.ref 210] (mj_hw w c (mj_u (mj_u (mj_u (mj_u (mj_u hi 206 ((((5 : Int32) + (hi 205 6))).toNatClampNeg) v1) 206 ((((15 : Int32) + (hi 205 6))).toNatClampNeg) v3) 206 ((((25 : Int32) + (hi 205 6))).toNatClampNeg) (0 : Int32)) 206 ((((35 : Int32) + (hi 205 6))).toNatClampNeg) (0 : Int32)) 209 (((hi 205 6)).toNatClampNeg) v2) hl) else mj_den mj_P E d 170 123 [Value.ref 205, Value.int v1, Value.int v2, Value.int v3, Value.int v4, Value.int (hi 205 6)] [Value.int (1 : Int32), Value.int (hi 205 6), Value.ref 210] (mj_hw w c (mj_u (mj_u (mj_u (mj_u (mj_u hi 206 ((((5 : Int32) + (hi 205 6))).toNatClampNeg) v1) 206 ((((15 : Int32) + (hi 205 6))).toNatClampNeg) v3) 206 ((((25 : Int32) + (hi 205 6))).toNatClampNeg) (0 : Int32)) 206 ((((35 : Int32) + (hi 205 6))).toNatClampNeg) (0 : Int32)) 209 (((hi 205 6)).toNatClampNeg) v2) hl) else none else none else none else none else none := by
  rw [mj_den_eq, f170_50]
  exact zt_aload_n rfl rfl (zt_geti (mjkd205 _ _ _ _) rfl rfl (zt_istore (Nat.le_of_ble_eq_true rfl) rfl rfl (zt_aload_n rfl rfl (zt_getr (mjkd205 _ _ _ _) (mjhr205_1 w c) rfl (zt_iconst rfl (zt_iload rfl rfl (zt_iadd rfl (zt_iload_n rfl rfl (zt_iast (mjkd206 _ _ _ _) (mjln206 _ _ _ _) rfl rfl (zt_aload_n rfl rfl (zt_getr (mjkd205 _ _ _ _) (mjhr205_1 w c) rfl (zt_bipush rfl (zt_iload rfl rfl (zt_iadd rfl (zt_iload_n rfl rfl (zt_iast (mjkd206 _ _ _ _) (mjln206 _ _ _ _) rfl rfl (zt_aload_n rfl rfl (zt_getr (mjkd205 _ _ _ _) (mjhr205_1 w c) rfl (zt_bipush rfl (zt_iload rfl rfl (zt_iadd rfl (zt_iconst rfl (zt_iast (mjkd206 _ _ _ _) (mjln206 _ _ _ _) rfl rfl (zt_aload_n rfl rfl (zt_getr (mjkd205 _ _ _ _) (mjhr205_1 w c) rfl (zt_bipush rfl (zt_iload rfl rfl (zt_iadd rfl (zt_iconst rfl (zt_iast (mjkd206 _ _ _ _) (mjln206 _ _ _ _) rfl rfl (zt_aload_n rfl rfl (zt_getr (mjkd205 _ _ _ _) (mjhr205_8 w c) rfl (zt_iload rfl rfl (zt_iload_n rfl rfl (zt_iast (mjkd209 _ _ _ _) (mjln209 _ _ _ _) rfl rfl (zt_aload_n rfl rfl (zt_getr (mjkd205 _ _ _ _) (mjhr205_9 w c) rfl (zt_iload rfl rfl (zt_iload rfl rfl (zt_if_eq rfl rfl (zt_iconst rfl (zt_goto rfl))))))))))))))))))))))))))))))))))))))))))
set_option maxRecDepth 100000 in
theorem f170_122 : mj_find (mj_P 170).2.2.2.2 122 = [(.iconst 0, 1, 0, [])] := rfl
set_option maxRecDepth 100000 in
theorem q170_122 (E : mj_E) (d w c : Nat) (hi : Nat → Nat → Int32) (hl : Nat → Nat → Int64) (v1 : Int32) (v2 : Int32) (v3 : Int32) (v4 : Int32) (v5 : Int32) (s0 : Int32) : mj_den mj_P E d 170 122 [Value.ref 205, Value.int v1, Value.int v2, Value.int v3, Value.int v4, Value.int v5] [Value.int s0, Value.ref 210] (mj_hw w c hi hl) = mj_den mj_P E d 170 123 [Value.ref 205, Value.int v1, Value.int v2, Value.int v3, Value.int v4, Value.int v5] [Value.int (0 : Int32), Value.int s0, Value.ref 210] (mj_hw w c hi hl) := by
  rw [mj_den_eq, f170_122]
  exact zt_iconst rfl (zt_end rfl)
set_option maxRecDepth 100000 in
theorem f170_123 : mj_find (mj_P 170).2.2.2.2 123 = [(.iastore, 1, 0, []), (.aload_n 0, 1, 0, []), (.iload 5, 2, 0, []), (.iconst 1, 1, 1, []), (.iadd, 1, 0, []), (.putfield 134, 3, 0, [12, 6, 0, 1416]), (.aload_n 0, 1, 0, []), (.iconst 0, 1, 0, []), (.putfield 125, 3, 0, [12, 3, 0, 1413]), (.iload 5, 2, 0, []), (.ireturn, 1, 0, [0])] := rfl
set_option maxRecDepth 100000 in
theorem q170_123 (E : mj_E) (d w c : Nat) (hi : Nat → Nat → Int32) (hl : Nat → Nat → Int64) (v1 : Int32) (v2 : Int32) (v3 : Int32) (v4 : Int32) (v5 : Int32) (s0 : Int32) (s1 : Int32) : mj_den mj_P E d 170 123 [Value.ref 205, Value.int v1, Value.int v2, Value.int v3, Value.int v4, Value.int v5] [Value.int s0, Value.int s1, Value.ref 210] (mj_hw w c hi hl) = if 0 ≤ s1 ∧ (s1).toNatClampNeg < 10 then some (some (Value.int v5), (mj_hw w c (mj_u (mj_u (mj_u hi 210 ((s1).toNatClampNeg) s0) 205 6 (v5 + (1 : Int32))) 205 3 (0 : Int32)) hl)) else none := by
  rw [mj_den_eq, f170_123]
  exact zt_iast (mjkd210 _ _ _ _) (mjln210 _ _ _ _) rfl rfl (zt_aload_n rfl rfl (zt_iload rfl rfl (zt_iconst rfl (zt_iadd rfl (zt_puti (mjkd205 _ _ _ _) rfl rfl (zt_aload_n rfl rfl (zt_iconst rfl (zt_puti (mjkd205 _ _ _ _) rfl rfl (zt_iload rfl rfl (zt_ireturn0))))))))))
set_option maxRecDepth 100000 in
theorem f171_0 : mj_find (mj_P 171).2.2.2.2 0 = [(.aload_n 0, 1, 0, []), (.iconst 0, 1, 0, []), (.putfield 122, 3, 0, [12, 0, 0, 1410]), (.aload_n 0, 1, 0, []), (.iload_n 1, 1, 0, []), (.iconst 0, 1, 0, []), (.iconst 5, 1, 5, []), (.invokevirtual 144, 3, 0, [0, 152, 12, 3, 1, 1624, 1626, 42, 156, 1627])] := rfl
set_option maxRecDepth 100000 in
theorem q171_0 (E : mj_E) (d w c : Nat) (hi : Nat → Nat → Int32) (hl : Nat → Nat → Int64) (v1 : Int32) (v2 : Int32) : mj_den mj_P E d 171 0 [Value.ref 205, Value.int v1, Value.int v2] [] (mj_hw w c hi hl) = mj_bi (mj_dc mj_P E d 152 [Value.ref 205, Value.int v1, Value.int (0 : Int32), Value.int (5 : Int32)] (mj_hw w c (mj_u hi 205 0 (0 : Int32)) hl)) (fun x1 h1 => mj_den mj_P E d 171 12 [Value.ref 205, Value.int v1, Value.int v2] [Value.int x1] h1) := by
  rw [mj_den_eq, f171_0]
  exact zt_aload_n rfl rfl (zt_iconst rfl (zt_puti (mjkd205 _ _ _ _) rfl rfl (zt_aload_n rfl rfl (zt_iload_n rfl rfl (zt_iconst rfl (zt_iconst rfl (zt_call0_1 rfl (mjkd205 _ _ _ _) (Nat.le_of_ble_eq_true rfl) rfl rfl)))))))
set_option maxRecDepth 100000 in
theorem f171_12 : mj_find (mj_P 171).2.2.2.2 12 = [(.ifCond .eq 24, 3, 0, [36]), (.aload_n 0, 1, 0, []), (.iload_n 2, 1, 0, []), (.iconst 0, 1, 0, []), (.sipush 999, 3, 999, []), (.invokevirtual 144, 3, 0, [0, 152, 12, 3, 1, 1624, 1626, 42, 156, 1627])] := rfl
set_option maxRecDepth 100000 in
theorem q171_12 (E : mj_E) (d w c : Nat) (hi : Nat → Nat → Int32) (hl : Nat → Nat → Int64) (v1 : Int32) (v2 : Int32) (s0 : Int32) : mj_den mj_P E d 171 12 [Value.ref 205, Value.int v1, Value.int v2] [Value.int s0] (mj_hw w c hi hl) = if s0 = 0 then mj_den mj_P E d 171 36 [Value.ref 205, Value.int v1, Value.int v2] [] (mj_hw w c hi hl) else mj_bi (mj_dc mj_P E d 152 [Value.ref 205, Value.int v2, Value.int (0 : Int32), Value.int (999 : Int32)] (mj_hw w c hi hl)) (fun x1 h1 => mj_den mj_P E d 171 24 [Value.ref 205, Value.int v1, Value.int v2] [Value.int x1] h1) := by
  rw [mj_den_eq, f171_12]
  exact zt_if_eq rfl rfl (zt_aload_n rfl rfl (zt_iload_n rfl rfl (zt_iconst rfl (zt_sipush rfl (zt_call0_1 rfl (mjkd205 _ _ _ _) (Nat.le_of_ble_eq_true rfl) rfl rfl)))))
set_option maxRecDepth 100000 in
theorem f171_24 : mj_find (mj_P 171).2.2.2.2 24 = [(.ifCond .eq 12, 3, 0, [36]), (.aload_n 0, 1, 0, []), (.getfield 137, 3, 0, [12, 7, 0, 1417]), (.bipush 12, 2, 12, []), (.if_icmp .ne 5, 3, 0, [38])] := rfl
set_option maxRecDepth 100000 in
theorem q171_24 (E : mj_E) (d w c : Nat) (hi : Nat → Nat → Int32) (hl : Nat → Nat → Int64) (v1 : Int32) (v2 : Int32) (s0 : Int32) : mj_den mj_P E d 171 24 [Value.ref 205, Value.int v1, Value.int v2] [Value.int s0] (mj_hw w c hi hl) = if s0 = 0 then mj_den mj_P E d 171 36 [Value.ref 205, Value.int v1, Value.int v2] [] (mj_hw w c hi hl) else if ¬ (hi 205 7) = (12 : Int32) then mj_den mj_P E d 171 38 [Value.ref 205, Value.int v1, Value.int v2] [] (mj_hw w c hi hl) else mj_den mj_P E d 171 36 [Value.ref 205, Value.int v1, Value.int v2] [] (mj_hw w c hi hl) := by
  rw [mj_den_eq, f171_24]
  exact zt_if_eq rfl rfl (zt_aload_n rfl rfl (zt_geti (mjkd205 _ _ _ _) rfl rfl (zt_bipush rfl (zt_icmp_ne rfl rfl (zt_end rfl)))))
set_option maxRecDepth 100000 in
theorem f171_36 : mj_find (mj_P 171).2.2.2.2 36 = [(.iconst (-1), 1, (-1), []), (.ireturn, 1, 0, [0])] := rfl
set_option maxRecDepth 100000 in
theorem q171_36 (E : mj_E) (d w c : Nat) (hi : Nat → Nat → Int32) (hl : Nat → Nat → Int64) (v1 : Int32) (v2 : Int32) : mj_den mj_P E d 171 36 [Value.ref 205, Value.int v1, Value.int v2] [] (mj_hw w c hi hl) = some (some (Value.int (-1 : Int32)), (mj_hw w c hi hl)) := by
  rw [mj_den_eq, f171_36]
  exact zt_iconst rfl (zt_ireturn0)
set_option maxRecDepth 100000 in
theorem f171_38 : mj_find (mj_P 171).2.2.2.2 38 = [(.aload_n 0, 1, 0, []), (.getfield 25, 3, 0, [12, 10, 3, 1420]), (.aload_n 0, 1, 0, []), (.getfield 137, 3, 0, [12, 7, 0, 1417]), (.iload_n 1, 1, 0, []), (.iastore, 1, 0, []), (.aload_n 0, 1, 0, []), (.getfield 28, 3, 0, [12, 11, 3, 1421]), (.aload_n 0, 1, 0, []), (.getfield 137, 3, 0, [12, 7, 0, 1417]), (.iload_n 2, 1, 0, []), (.iastore, 1, 0, []), (.aload_n 0, 1, 0, []), (.getfield 7, 3, 0, [12, 1, 3, 1411]), (.bipush 45, 2, 45, []), (.aload_n 0, 1, 0, []), (.getfield 137, 3, 0, [12, 7, 0, 1417]), (.iadd, 1, 0, []), (.iconst 0, 1, 0, []), (.iastore, 1, 0, []), (.aload_n 0, 1, 0, []), (.aload_n 0, 1, 0, []), (.getfield 137, 3, 0, [12, 7, 0, 1417]), (.iconst 1, 1, 1, []), (.iadd, 1, 0, []), (.putfield 137, 3, 0, [12, 7, 0, 1417]), (.aload_n 0, 1, 0, []), (.iconst 0, 1, 0, []), (.putfield 125, 3, 0, [12, 3, 0, 1413]), (.aload_n 0, 1, 0, []), (.getfield 137, 3, 0, [12, 7, 0, 1417]), (.iconst 1, 1, 1, []), (.isub, 1, 0, []), (.ireturn, 1, 0, [0])] := rfl
set_option maxRecDepth 100000 in
theorem q171_38 (E : mj_E) (d w c : Nat) (hi : Nat → Nat → Int32) (hl : Nat → Nat → Int64) (v1 : Int32) (v2 : Int32) : mj_den mj_P E d 171 38 [Value.ref 205, Value.int v1, Value.int v2] [] (mj_hw w c hi hl) = if 0 ≤ (hi 205 7) ∧ ((hi 205 7)).toNatClampNeg < 12 then if 0 ≤ (hi 205 7) ∧ ((hi 205 7)).toNatClampNeg < 12 then if 0 ≤ ((45 : Int32) + (hi 205 7)) ∧ (((45 : Int32) + (hi 205 7))).toNatClampNeg < 57 then some (some (Value.int (((hi 205 7) + (1 : Int32)) - (1 : Int32))), (mj_hw w c (mj_u (mj_u (mj_u (mj_u (mj_u hi 211 (((hi 205 7)).toNatClampNeg) v1) 212 (((hi 205 7)).toNatClampNeg) v2) 206 ((((45 : Int32) + (hi 205 7))).toNatClampNeg) (0 : Int32)) 205 7 ((hi 205 7) + (1 : Int32))) 205 3 (0 : Int32)) hl)) else none else none else none := by
  rw [mj_den_eq, f171_38]
  exact zt_aload_n rfl rfl (zt_getr (mjkd205 _ _ _ _) (mjhr205_10 w c) rfl (zt_aload_n rfl rfl (zt_geti (mjkd205 _ _ _ _) rfl rfl (zt_iload_n rfl rfl (zt_iast (mjkd211 _ _ _ _) (mjln211 _ _ _ _) rfl rfl (zt_aload_n rfl rfl (zt_getr (mjkd205 _ _ _ _) (mjhr205_11 w c) rfl (zt_aload_n rfl rfl (zt_geti (mjkd205 _ _ _ _) rfl rfl (zt_iload_n rfl rfl (zt_iast (mjkd212 _ _ _ _) (mjln212 _ _ _ _) rfl rfl (zt_aload_n rfl rfl (zt_getr (mjkd205 _ _ _ _) (mjhr205_1 w c) rfl (zt_bipush rfl (zt_aload_n rfl rfl (zt_geti (mjkd205 _ _ _ _) rfl rfl (zt_iadd rfl (zt_iconst rfl (zt_iast (mjkd206 _ _ _ _) (mjln206 _ _ _ _) rfl rfl (zt_aload_n rfl rfl (zt_aload_n rfl rfl (zt_geti (mjkd205 _ _ _ _) rfl rfl (zt_iconst rfl (zt_iadd rfl (zt_puti (mjkd205 _ _ _ _) rfl rfl (zt_aload_n rfl rfl (zt_iconst rfl (zt_puti (mjkd205 _ _ _ _) rfl rfl (zt_aload_n rfl rfl (zt_geti (mjkd205 _ _ _ _) rfl rfl (zt_iconst rfl (zt_isub rfl (zt_ireturn0)))))))))))))))))))))))))))))))))
set_option maxRecDepth 100000 in
theorem f172_0 : mj_find (mj_P 172).2.2.2.2 0 = [(.aload_n 0, 1, 0, []), (.iload_n 1, 1, 0, []), (.iconst 0, 1, 0, []), (.iconst 2, 1, 2, []), (.invokevirtual 144, 3, 0, [0, 152, 12, 3, 1, 1624, 1626, 42, 156, 1627])] := rfl
set_option maxRecDepth 100000 in
theorem q172_0 (E : mj_E) (d w c : Nat) (hi : Nat → Nat → Int32) (hl : Nat → Nat → Int64) (v1 : Int32) (v2 : Int32) (v3 : Int32) : mj_den mj_P E d 172 0 [Value.ref 205, Value.int v1, Value.int v2, Value.int v3] [] (mj_hw w c hi hl) = mj_bi (mj_dc mj_P E d 152 [Value.ref 205, Value.int v1, Value.int (0 : Int32), Value.int (2 : Int32)] (mj_hw w c hi hl)) (fun x1 h1 => mj_den mj_P E d 172 7 [Value.ref 205, Value.int v1, Value.int v2, Value.int v3] [Value.int x1] h1) := by
  rw [mj_den_eq, f172_0]
  exact zt_aload_n rfl rfl (zt_iload_n rfl rfl (zt_iconst rfl (zt_iconst rfl (zt_call0_1 rfl (mjkd205 _ _ _ _) (Nat.le_of_ble_eq_true rfl) rfl rfl))))
set_option maxRecDepth 100000 in
theorem f172_7 : mj_find (mj_P 172).2.2.2.2 7 = [(.ifCond .eq 48, 3, 0, [55]), (.aload_n 0, 1, 0, []), (.iload_n 2, 1, 0, []), (.invokevirtual 148, 3, 0, [0, 164, 12, 1, 1, 1640, 1642, 44, 156, 1643])] := rfl
set_option maxRecDepth 100000 in
theorem q172_7 (E : mj_E) (d w c : Nat) (hi : Nat → Nat → Int32) (hl : Nat → Nat → Int64) (v1 : Int32) (v2 : Int32) (v3 : Int32) (s0 : Int32) : mj_den mj_P E d 172 7 [Value.ref 205, Value.int v1, Value.int v2, Value.int v3] [Value.int s0] (mj_hw w c hi hl) = if s0 = 0 then mj_den mj_P E d 172 55 [Value.ref 205, Value.int v1, Value.int v2, Value.int v3] [] (mj_hw w c hi hl) else mj_bi (mj_dc mj_P E d 164 [Value.ref 205, Value.int v2] (mj_hw w c hi hl)) (fun x1 h1 => mj_den mj_P E d 172 15 [Value.ref 205, Value.int v1, Value.int v2, Value.int v3] [Value.int x1] h1) := by
  rw [mj_den_eq, f172_7]
  exact zt_if_eq rfl rfl (zt_aload_n rfl rfl (zt_iload_n rfl rfl (zt_call0_1 rfl (mjkd205 _ _ _ _) (Nat.le_of_ble_eq_true rfl) rfl rfl)))
set_option maxRecDepth 100000 in
theorem f172_15 : mj_find (mj_P 172).2.2.2.2 15 = [(.ifCond .eq 38, 3, 0, [53]), (.aload_n 0, 1, 0, []), (.iload_n 3, 1, 0, []), (.iconst 0, 1, 0, []), (.iload_n 1, 1, 0, []), (.ifCond .ne 8, 3, 0, [30]), (.bipush 99, 2, 99, []), (.goto 16, 3, 0, [43])] := rfl
set_option maxRecDepth 100000 in
theorem q172_15 (E : mj_E) (d w c : Nat) (hi : Nat → Nat → Int32) (hl : Nat → Nat → Int64) (v1 : Int32) (v2 : Int32) (v3 : Int32) (s0 : Int32) : mj_den mj_P E d 172 15 [Value.ref 205, Value.int v1, Value.int v2, Value.int v3] [Value.int s0] (mj_hw w c hi hl) = if s0 = 0 then mj_den mj_P E d 172 53 [Value.ref 205, Value.int v1, Value.int v2, Value.int v3] [] (mj_hw w c hi hl) else if ¬ v1 = 0 then mj_den mj_P E d 172 30 [Value.ref 205, Value.int v1, Value.int v2, Value.int v3] [Value.int (0 : Int32), Value.int v3, Value.ref 205] (mj_hw w c hi hl) else mj_den mj_P E d 172 43 [Value.ref 205, Value.int v1, Value.int v2, Value.int v3] [Value.int (99 : Int32), Value.int (0 : Int32), Value.int v3, Value.ref 205] (mj_hw w c hi hl) := by
  rw [mj_den_eq, f172_15]
  exact zt_if_eq rfl rfl (zt_aload_n rfl rfl (zt_iload_n rfl rfl (zt_iconst rfl (zt_iload_n rfl rfl (zt_if_ne rfl rfl (zt_bipush rfl (zt_goto rfl)))))))
set_option maxRecDepth 100000 in
theorem f172_30 : mj_find (mj_P 172).2.2.2.2 30 = [(.iload_n 1, 1, 0, []), (.iconst 1, 1, 1, []), (.if_icmp .ne 8, 3, 0, [40]), (.bipush 9, 2, 9, []), (.goto 6, 3, 0, [43])] := rfl
set_option maxRecDepth 100000 in
theorem q172_30 (E : mj_E) (d w c : Nat) (hi : Nat → Nat → Int32) (hl : Nat → Nat → Int64) (v1 : Int32) (v2 : Int32) (v3 : Int32) (s0 : Int32) (s1 : Int32) : mj_den mj_P E d 172 30 [Value.ref 205, Value.int v1, Value.int v2, Value.int v3] [Value.int s0, Value.int s1, Value.ref 205] (mj_hw w c hi hl) = if ¬ v1 = (1 : Int32) then mj_den mj_P E d 172 40 [Value.ref 205, Value.int v1, Value.int v2, Value.int v3] [Value.int s0, Value.int s1, Value.ref 205] (mj_hw w c hi hl) else mj_den mj_P E d 172 43 [Value.ref 205, Value.int v1, Value.int v2, Value.int v3] [Value.int (9 : Int32), Value.int s0, Value.int s1, Value.ref 205] (mj_hw w c hi hl) := by
  rw [mj_den_eq, f172_30]
  exact zt_iload_n rfl rfl (zt_iconst rfl (zt_icmp_ne rfl rfl (zt_bipush rfl (zt_goto rfl))))
set_option maxRecDepth 100000 in
theorem f172_40 : mj_find (mj_P 172).2.2.2.2 40 = [(.sipush 9999, 3, 9999, [])] := rfl
set_option maxRecDepth 100000 in
theorem q172_40 (E : mj_E) (d w c : Nat) (hi : Nat → Nat → Int32) (hl : Nat → Nat → Int64) (v1 : Int32) (v2 : Int32) (v3 : Int32) (s0 : Int32) (s1 : Int32) : mj_den mj_P E d 172 40 [Value.ref 205, Value.int v1, Value.int v2, Value.int v3] [Value.int s0, Value.int s1, Value.ref 205] (mj_hw w c hi hl) = mj_den mj_P E d 172 43 [Value.ref 205, Value.int v1, Value.int v2, Value.int v3] [Value.int (9999 : Int32), Value.int s0, Value.int s1, Value.ref 205] (mj_hw w c hi hl) := by
  rw [mj_den_eq, f172_40]
  exact zt_sipush rfl (zt_end rfl)
set_option maxRecDepth 100000 in
theorem f172_43 : mj_find (mj_P 172).2.2.2.2 43 = [(.invokevirtual 144, 3, 0, [0, 152, 12, 3, 1, 1624, 1626, 42, 156, 1627])] := rfl
set_option maxRecDepth 100000 in
theorem q172_43 (E : mj_E) (d w c : Nat) (hi : Nat → Nat → Int32) (hl : Nat → Nat → Int64) (v1 : Int32) (v2 : Int32) (v3 : Int32) (s0 : Int32) (s1 : Int32) (s2 : Int32) : mj_den mj_P E d 172 43 [Value.ref 205, Value.int v1, Value.int v2, Value.int v3] [Value.int s0, Value.int s1, Value.int s2, Value.ref 205] (mj_hw w c hi hl) = mj_bi (mj_dc mj_P E d 152 [Value.ref 205, Value.int s2, Value.int s1, Value.int s0] (mj_hw w c hi hl)) (fun x1 h1 => mj_den mj_P E d 172 46 [Value.ref 205, Value.int v1, Value.int v2, Value.int v3] [Value.int x1] h1) := by
  rw [mj_den_eq, f172_43]
  exact zt_call0_1 rfl (mjkd205 _ _ _ _) (Nat.le_of_ble_eq_true rfl) rfl rfl
set_option maxRecDepth 100000 in
theorem f172_46 : mj_find (mj_P 172).2.2.2.2 46 = [(.ifCond .eq 7, 3, 0, [53]), (.iconst 1, 1, 1, []), (.goto 4, 3, 0, [54])] := rfl
set_option maxRecDepth 100000 in
theorem q172_46 (E : mj_E) (d w c : Nat) (hi : Nat → Nat → Int32) (hl : Nat → Nat → Int64) (v1 : Int32) (v2 : Int32) (v3 : Int32) (s0 : Int32) : mj_den mj_P E d 172 46 [Value.ref 205, Value.int v1, Value.int v2, Value.int v3] [Value.int s0] (mj_hw w c hi hl) = if s0 = 0 then mj_den mj_P E d 172 53 [Value.ref 205, Value.int v1, Value.int v2, Value.int v3] [] (mj_hw w c hi hl) else mj_den mj_P E d 172 54 [Value.ref 205, Value.int v1, Value.int v2, Value.int v3] [Value.int (1 : Int32)] (mj_hw w c hi hl) := by
  rw [mj_den_eq, f172_46]
  exact zt_if_eq rfl rfl (zt_iconst rfl (zt_goto rfl))
set_option maxRecDepth 100000 in
theorem f172_53 : mj_find (mj_P 172).2.2.2.2 53 = [(.iconst 0, 1, 0, [])] := rfl
set_option maxRecDepth 100000 in
theorem q172_53 (E : mj_E) (d w c : Nat) (hi : Nat → Nat → Int32) (hl : Nat → Nat → Int64) (v1 : Int32) (v2 : Int32) (v3 : Int32) : mj_den mj_P E d 172 53 [Value.ref 205, Value.int v1, Value.int v2, Value.int v3] [] (mj_hw w c hi hl) = mj_den mj_P E d 172 54 [Value.ref 205, Value.int v1, Value.int v2, Value.int v3] [Value.int (0 : Int32)] (mj_hw w c hi hl) := by
  rw [mj_den_eq, f172_53]
  exact zt_iconst rfl (zt_end rfl)
set_option maxRecDepth 100000 in
theorem f172_54 : mj_find (mj_P 172).2.2.2.2 54 = [(.ireturn, 1, 0, [1])] := rfl
set_option maxRecDepth 100000 in
theorem q172_54 (E : mj_E) (d w c : Nat) (hi : Nat → Nat → Int32) (hl : Nat → Nat → Int64) (v1 : Int32) (v2 : Int32) (v3 : Int32) (s0 : Int32) : mj_den mj_P E d 172 54 [Value.ref 205, Value.int v1, Value.int v2, Value.int v3] [Value.int s0] (mj_hw w c hi hl) = if s0 = 0 ∨ s0 = 1 then some (some (Value.int s0), (mj_hw w c hi hl)) else none := by
  rw [mj_den_eq, f172_54]
  exact zt_ireturn1
set_option maxRecDepth 100000 in
theorem f172_55 : mj_find (mj_P 172).2.2.2.2 55 = [(.aload_n 0, 1, 0, []), (.iload_n 1, 1, 0, []), (.iconst 3, 1, 3, []), (.iconst 4, 1, 4, []), (.invokevirtual 144, 3, 0, [0, 152, 12, 3, 1, 1624, 1626, 42, 156, 1627])] := rfl
set_option maxRecDepth 100000 in
theorem q172_55 (E : mj_E) (d w c : Nat) (hi : Nat → Nat → Int32) (hl : Nat → Nat → Int64) (v1 : Int32) (v2 : Int32) (v3 : Int32) : mj_den mj_P E d 172 55 [Value.ref 205, Value.int v1, Value.int v2, Value.int v3] [] (mj_hw w c hi hl) = mj_bi (mj_dc mj_P E d 152 [Value.ref 205, Value.int v1, Value.int (3 : Int32), Value.int (4 : Int32)] (mj_hw w c hi hl)) (fun x1 h1 => mj_den mj_P E d 172 62 [Value.ref 205, Value.int v1, Value.int v2, Value.int v3] [Value.int x1] h1) := by
  rw [mj_den_eq, f172_55]
  exact zt_aload_n rfl rfl (zt_iload_n rfl rfl (zt_iconst rfl (zt_iconst rfl (zt_call0_1 rfl (mjkd205 _ _ _ _) (Nat.le_of_ble_eq_true rfl) rfl rfl))))
set_option maxRecDepth 100000 in
theorem f172_62 : mj_find (mj_P 172).2.2.2.2 62 = [(.ifCond .eq 36, 3, 0, [98]), (.aload_n 0, 1, 0, []), (.iload_n 2, 1, 0, []), (.invokevirtual 152, 3, 0, [0, 165, 12, 1, 1, 1644, 1646, 45, 156, 1647])] := rfl
set_option maxRecDepth 100000 in
theorem q172_62 (E : mj_E) (d w c : Nat) (hi : Nat → Nat → Int32) (hl : Nat → Nat → Int64) (v1 : Int32) (v2 : Int32) (v3 : Int32) (s0 : Int32) : mj_den mj_P E d 172 62 [Value.ref 205, Value.int v1, Value.int v2, Value.int v3] [Value.int s0] (mj_hw w c hi hl) = if s0 = 0 then mj_den mj_P E d 172 98 [Value.ref 205, Value.int v1, Value.int v2, Value.int v3] [] (mj_hw w c hi hl) else mj_bi (mj_dc mj_P E d 165 [Value.ref 205, Value.int v2] (mj_hw w c hi hl)) (fun x1 h1 => mj_den mj_P E d 172 70 [Value.ref 205, Value.int v1, Value.int v2, Value.int v3] [Value.int x1] h1) := by
  rw [mj_den_eq, f172_62]
  exact zt_if_eq rfl rfl (zt_aload_n rfl rfl (zt_iload_n rfl rfl (zt_call0_1 rfl (mjkd205 _ _ _ _) (Nat.le_of_ble_eq_true rfl) rfl rfl)))
set_option maxRecDepth 100000 in
theorem f172_70 : mj_find (mj_P 172).2.2.2.2 70 = [(.ifCond .eq 28, 3, 0, [98]), (.aload_n 0, 1, 0, []), (.iload_n 3, 1, 0, []), (.iconst 0, 1, 0, []), (.iload_n 1, 1, 0, []), (.iconst 3, 1, 3, []), (.if_icmp .ne 9, 3, 0, [87]), (.sipush 999, 3, 999, []), (.goto 4, 3, 0, [88])] := rfl
set_option maxRecDepth 100000 in
theorem q172_70 (E : mj_E) (d w c : Nat) (hi : Nat → Nat → Int32) (hl : Nat → Nat → Int64) (v1 : Int32) (v2 : Int32) (v3 : Int32) (s0 : Int32) : mj_den mj_P E d 172 70 [Value.ref 205, Value.int v1, Value.int v2, Value.int v3] [Value.int s0] (mj_hw w c hi hl) = if s0 = 0 then mj_den mj_P E d 172 98 [Value.ref 205, Value.int v1, Value.int v2, Value.int v3] [] (mj_hw w c hi hl) else if ¬ v1 = (3 : Int32) then mj_den mj_P E d 172 87 [Value.ref 205, Value.int v1, Value.int v2, Value.int v3] [Value.int (0 : Int32), Value.int v3, Value.ref 205] (mj_hw w c hi hl) else mj_den mj_P E d 172 88 [Value.ref 205, Value.int v1, Value.int v2, Value.int v3] [Value.int (999 : Int32), Value.int (0 : Int32), Value.int v3, Value.ref 205] (mj_hw w c hi hl) := by
  rw [mj_den_eq, f172_70]
  exact zt_if_eq rfl rfl (zt_aload_n rfl rfl (zt_iload_n rfl rfl (zt_iconst rfl (zt_iload_n rfl rfl (zt_iconst rfl (zt_icmp_ne rfl rfl (zt_sipush rfl (zt_goto rfl))))))))
set_option maxRecDepth 100000 in
theorem f172_87 : mj_find (mj_P 172).2.2.2.2 87 = [(.iconst 5, 1, 5, [])] := rfl
set_option maxRecDepth 100000 in
theorem q172_87 (E : mj_E) (d w c : Nat) (hi : Nat → Nat → Int32) (hl : Nat → Nat → Int64) (v1 : Int32) (v2 : Int32) (v3 : Int32) (s0 : Int32) (s1 : Int32) : mj_den mj_P E d 172 87 [Value.ref 205, Value.int v1, Value.int v2, Value.int v3] [Value.int s0, Value.int s1, Value.ref 205] (mj_hw w c hi hl) = mj_den mj_P E d 172 88 [Value.ref 205, Value.int v1, Value.int v2, Value.int v3] [Value.int (5 : Int32), Value.int s0, Value.int s1, Value.ref 205] (mj_hw w c hi hl) := by
  rw [mj_den_eq, f172_87]
  exact zt_iconst rfl (zt_end rfl)
set_option maxRecDepth 100000 in
theorem f172_88 : mj_find (mj_P 172).2.2.2.2 88 = [(.invokevirtual 144, 3, 0, [0, 152, 12, 3, 1, 1624, 1626, 42, 156, 1627])] := rfl
set_option maxRecDepth 100000 in
theorem q172_88 (E : mj_E) (d w c : Nat) (hi : Nat → Nat → Int32) (hl : Nat → Nat → Int64) (v1 : Int32) (v2 : Int32) (v3 : Int32) (s0 : Int32) (s1 : Int32) (s2 : Int32) : mj_den mj_P E d 172 88 [Value.ref 205, Value.int v1, Value.int v2, Value.int v3] [Value.int s0, Value.int s1, Value.int s2, Value.ref 205] (mj_hw w c hi hl) = mj_bi (mj_dc mj_P E d 152 [Value.ref 205, Value.int s2, Value.int s1, Value.int s0] (mj_hw w c hi hl)) (fun x1 h1 => mj_den mj_P E d 172 91 [Value.ref 205, Value.int v1, Value.int v2, Value.int v3] [Value.int x1] h1) := by
  rw [mj_den_eq, f172_88]
  exact zt_call0_1 rfl (mjkd205 _ _ _ _) (Nat.le_of_ble_eq_true rfl) rfl rfl
set_option maxRecDepth 100000 in
theorem f172_91 : mj_find (mj_P 172).2.2.2.2 91 = [(.ifCond .eq 7, 3, 0, [98]), (.iconst 1, 1, 1, []), (.goto 4, 3, 0, [99])] := rfl
set_option maxRecDepth 100000 in
theorem q172_91 (E : mj_E) (d w c : Nat) (hi : Nat → Nat → Int32) (hl : Nat → Nat → Int64) (v1 : Int32) (v2 : Int32) (v3 : Int32) (s0 : Int32) : mj_den mj_P E d 172 91 [Value.ref 205, Value.int v1, Value.int v2, Value.int v3] [Value.int s0] (mj_hw w c hi hl) = if s0 = 0 then mj_den mj_P E d 172 98 [Value.ref 205, Value.int v1, Value.int v2, Value.int v3] [] (mj_hw w c hi hl) else mj_den mj_P E d 172 99 [Value.ref 205, Value.int v1, Value.int v2, Value.int v3] [Value.int (1 : Int32)] (mj_hw w c hi hl) := by
  rw [mj_den_eq, f172_91]
  exact zt_if_eq rfl rfl (zt_iconst rfl (zt_goto rfl))
set_option maxRecDepth 100000 in
theorem f172_98 : mj_find (mj_P 172).2.2.2.2 98 = [(.iconst 0, 1, 0, [])] := rfl
set_option maxRecDepth 100000 in
theorem q172_98 (E : mj_E) (d w c : Nat) (hi : Nat → Nat → Int32) (hl : Nat → Nat → Int64) (v1 : Int32) (v2 : Int32) (v3 : Int32) : mj_den mj_P E d 172 98 [Value.ref 205, Value.int v1, Value.int v2, Value.int v3] [] (mj_hw w c hi hl) = mj_den mj_P E d 172 99 [Value.ref 205, Value.int v1, Value.int v2, Value.int v3] [Value.int (0 : Int32)] (mj_hw w c hi hl) := by
  rw [mj_den_eq, f172_98]
  exact zt_iconst rfl (zt_end rfl)
set_option maxRecDepth 100000 in
theorem f172_99 : mj_find (mj_P 172).2.2.2.2 99 = [(.ireturn, 1, 0, [1])] := rfl
set_option maxRecDepth 100000 in
theorem q172_99 (E : mj_E) (d w c : Nat) (hi : Nat → Nat → Int32) (hl : Nat → Nat → Int64) (v1 : Int32) (v2 : Int32) (v3 : Int32) (s0 : Int32) : mj_den mj_P E d 172 99 [Value.ref 205, Value.int v1, Value.int v2, Value.int v3] [Value.int s0] (mj_hw w c hi hl) = if s0 = 0 ∨ s0 = 1 then some (some (Value.int s0), (mj_hw w c hi hl)) else none := by
  rw [mj_den_eq, f172_99]
  exact zt_ireturn1
set_option maxRecDepth 100000 in
theorem f173_0 : mj_find (mj_P 173).2.2.2.2 0 = [(.aload_n 0, 1, 0, []), (.iconst 0, 1, 0, []), (.putfield 122, 3, 0, [12, 0, 0, 1410]), (.aload_n 0, 1, 0, []), (.iload_n 1, 1, 0, []), (.iload_n 2, 1, 0, []), (.iload_n 3, 1, 0, []), (.invokevirtual 155, 3, 0, [0, 172, 12, 3, 1, 1636, 1638, 43, 156, 1639])] := rfl
set_option maxRecDepth 100000 in
theorem q173_0 (E : mj_E) (d w c : Nat) (hi : Nat → Nat → Int32) (hl : Nat → Nat → Int64) (v1 : Int32) (v2 : Int32) (v3 : Int32) : mj_den mj_P E d 173 0 [Value.ref 205, Value.int v1, Value.int v2, Value.int v3] [] (mj_hw w c hi hl) = mj_bi (mj_dc mj_P E d 172 [Value.ref 205, Value.int v1, Value.int v2, Value.int v3] (mj_hw w c (mj_u hi 205 0 (0 : Int32)) hl)) (fun x1 h1 => mj_den mj_P E d 173 12 [Value.ref 205, Value.int v1, Value.int v2, Value.int v3] [Value.int x1] h1) := by
  rw [mj_den_eq, f173_0]
  exact zt_aload_n rfl rfl (zt_iconst rfl (zt_puti (mjkd205 _ _ _ _) rfl rfl (zt_aload_n rfl rfl (zt_iload_n rfl rfl (zt_iload_n rfl rfl (zt_iload_n rfl rfl (zt_call0_1 rfl (mjkd205 _ _ _ _) (Nat.le_of_ble_eq_true rfl) rfl rfl)))))))
set_option maxRecDepth 100000 in
theorem f173_12 : mj_find (mj_P 173).2.2.2.2 12 = [(.ifCond .ne 5, 3, 0, [17]), (.iconst 0, 1, 0, []), (.ireturn, 1, 0, [1])] := rfl
set_option maxRecDepth 100000 in
theorem q173_12 (E : mj_E) (d w c : Nat) (hi : Nat → Nat → Int32) (hl : Nat → Nat → Int64) (v1 : Int32) (v2 : Int32) (v3 : Int32) (s0 : Int32) : mj_den mj_P E d 173 12 [Value.ref 205, Value.int v1, Value.int v2, Value.int v3] [Value.int s0] (mj_hw w c hi hl) = if ¬ s0 = 0 then mj_den mj_P E d 173 17 [Value.ref 205, Value.int v1, Value.int v2, Value.int v3] [] (mj_hw w c hi hl) else if (0 : Int32) = 0 ∨ (0 : Int32) = 1 then some (some (Value.int (0 : Int32)), (mj_hw w c hi hl)) else none := by
  rw [mj_den_eq, f173_12]
  exact zt_if_ne rfl rfl (zt_iconst rfl (zt_ireturn1))
set_option maxRecDepth 100000 in
theorem f173_17 : mj_find (mj_P 173).2.2.2.2 17 = [(.iload_n 1, 1, 0, []), (.ifCond .ne 12, 3, 0, [30]), (.aload_n 0, 1, 0, []), (.getfield 7, 3, 0, [12, 1, 3, 1411]), (.iconst 5, 1, 5, []), (.iload_n 2, 1, 0, []), (.iadd, 1, 0, []), (.iload_n 3, 1, 0, []), (.iastore, 1, 0, [])] := rfl
set_option maxRecDepth 100000 in
theorem q173_17 (E : mj_E) (d w c : Nat) (hi : Nat → Nat → Int32) (hl : Nat → Nat → Int64) (v1 : Int32) (v2 : Int32) (v3 : Int32) : mj_den mj_P E d 173 17 [Value.ref 205, Value.int v1, Value.int v2, Value.int v3] [] (mj_hw w c hi hl) = if ¬ v1 = 0 then mj_den mj_P E d 173 30 [Value.ref 205, Value.int v1, Value.int v2, Value.int v3] [] (mj_hw w c hi hl) else if 0 ≤ ((5 : Int32) + v2) ∧ (((5 : Int32) + v2)).toNatClampNeg < 57 then mj_den mj_P E d 173 30 [Value.ref 205, Value.int v1, Value.int v2, Value.int v3] [] (mj_hw w c (mj_u hi 206 ((((5 : Int32) + v2)).toNatClampNeg) v3) hl) else none := by
  rw [mj_den_eq, f173_17]
  exact zt_iload_n rfl rfl (zt_if_ne rfl rfl (zt_aload_n rfl rfl (zt_getr (mjkd205 _ _ _ _) (mjhr205_1 w c) rfl (zt_iconst rfl (zt_iload_n rfl rfl (zt_iadd rfl (zt_iload_n rfl rfl (zt_iast (mjkd206 _ _ _ _) (mjln206 _ _ _ _) rfl rfl (zt_end rfl)))))))))
set_option maxRecDepth 100000 in
theorem f173_30 : mj_find (mj_P 173).2.2.2.2 30 = [(.iload_n 1, 1, 0, []), (.iconst 1, 1, 1, []), (.if_icmp .ne 10, 3, 0, [42]), (.aload_n 0, 1, 0, []), (.getfield 19, 3, 0, [12, 8, 3, 1418]), (.iload_n 2, 1, 0, []), (.iload_n 3, 1, 0, []), (.iastore, 1, 0, [])] := rfl
set_option maxRecDepth 100000 in
theorem q173_30 (E : mj_E) (d w c : Nat) (hi : Nat → Nat → Int32) (hl : Nat → Nat → Int64) (v1 : Int32) (v2 : Int32) (v3 : Int32) : mj_den mj_P E d 173 30 [Value.ref 205, Value.int v1, Value.int v2, Value.int v3] [] (mj_hw w c hi hl) = if ¬ v1 = (1 : Int32) then mj_den mj_P E d 173 42 [Value.ref 205, Value.int v1, Value.int v2, Value.int v3] [] (mj_hw w c hi hl) else if 0 ≤ v2 ∧ (v2).toNatClampNeg < 10 then mj_den mj_P E d 173 42 [Value.ref 205, Value.int v1, Value.int v2, Value.int v3] [] (mj_hw w c (mj_u hi 209 ((v2).toNatClampNeg) v3) hl) else none := by
  rw [mj_den_eq, f173_30]
  exact zt_iload_n rfl rfl (zt_iconst rfl (zt_icmp_ne rfl rfl (zt_aload_n rfl rfl (zt_getr (mjkd205 _ _ _ _) (mjhr205_8 w c) rfl (zt_iload_n rfl rfl (zt_iload_n rfl rfl (zt_iast (mjkd209 _ _ _ _) (mjln209 _ _ _ _) rfl rfl (zt_end rfl))))))))
set_option maxRecDepth 100000 in
theorem f173_42 : mj_find (mj_P 173).2.2.2.2 42 = [(.iload_n 1, 1, 0, []), (.iconst 2, 1, 2, []), (.if_icmp .ne 13, 3, 0, [57]), (.aload_n 0, 1, 0, []), (.getfield 7, 3, 0, [12, 1, 3, 1411]), (.bipush 15, 2, 15, []), (.iload_n 2, 1, 0, []), (.iadd, 1, 0, []), (.iload_n 3, 1, 0, []), (.iastore, 1, 0, [])] := rfl
set_option maxRecDepth 100000 in
theorem q173_42 (E : mj_E) (d w c : Nat) (hi : Nat → Nat → Int32) (hl : Nat → Nat → Int64) (v1 : Int32) (v2 : Int32) (v3 : Int32) : mj_den mj_P E d 173 42 [Value.ref 205, Value.int v1, Value.int v2, Value.int v3] [] (mj_hw w c hi hl) = if ¬ v1 = (2 : Int32) then mj_den mj_P E d 173 57 [Value.ref 205, Value.int v1, Value.int v2, Value.int v3] [] (mj_hw w c hi hl) else if 0 ≤ ((15 : Int32) + v2) ∧ (((15 : Int32) + v2)).toNatClampNeg < 57 then mj_den mj_P E d 173 57 [Value.ref 205, Value.int v1, Value.int v2, Value.int v3] [] (mj_hw w c (mj_u hi 206 ((((15 : Int32) + v2)).toNatClampNeg) v3) hl) else none := by
  rw [mj_den_eq, f173_42]
  exact zt_iload_n rfl rfl (zt_iconst rfl (zt_icmp_ne rfl rfl (zt_aload_n rfl rfl (zt_getr (mjkd205 _ _ _ _) (mjhr205_1 w c) rfl (zt_bipush rfl (zt_iload_n rfl rfl (zt_iadd rfl (zt_iload_n rfl rfl (zt_iast (mjkd206 _ _ _ _) (mjln206 _ _ _ _) rfl rfl (zt_end rfl))))))))))
set_option maxRecDepth 100000 in
theorem f173_57 : mj_find (mj_P 173).2.2.2.2 57 = [(.iload_n 1, 1, 0, []), (.iconst 3, 1, 3, []), (.if_icmp .ne 10, 3, 0, [69]), (.aload_n 0, 1, 0, []), (.getfield 28, 3, 0, [12, 11, 3, 1421]), (.iload_n 2, 1, 0, []), (.iload_n 3, 1, 0, []), (.iastore, 1, 0, [])] := rfl
set_option maxRecDepth 100000 in
theorem q173_57 (E : mj_E) (d w c : Nat) (hi : Nat → Nat → Int32) (hl : Nat → Nat → Int64) (v1 : Int32) (v2 : Int32) (v3 : Int32) : mj_den mj_P E d 173 57 [Value.ref 205, Value.int v1, Value.int v2, Value.int v3] [] (mj_hw w c hi hl) = if ¬ v1 = (3 : Int32) then mj_den mj_P E d 173 69 [Value.ref 205, Value.int v1, Value.int v2, Value.int v3] [] (mj_hw w c hi hl) else if 0 ≤ v2 ∧ (v2).toNatClampNeg < 12 then mj_den mj_P E d 173 69 [Value.ref 205, Value.int v1, Value.int v2, Value.int v3] [] (mj_hw w c (mj_u hi 212 ((v2).toNatClampNeg) v3) hl) else none := by
  rw [mj_den_eq, f173_57]
  exact zt_iload_n rfl rfl (zt_iconst rfl (zt_icmp_ne rfl rfl (zt_aload_n rfl rfl (zt_getr (mjkd205 _ _ _ _) (mjhr205_11 w c) rfl (zt_iload_n rfl rfl (zt_iload_n rfl rfl (zt_iast (mjkd212 _ _ _ _) (mjln212 _ _ _ _) rfl rfl (zt_end rfl))))))))
set_option maxRecDepth 100000 in
theorem f173_69 : mj_find (mj_P 173).2.2.2.2 69 = [(.iload_n 1, 1, 0, []), (.iconst 4, 1, 4, []), (.if_icmp .ne 10, 3, 0, [81]), (.aload_n 0, 1, 0, []), (.getfield 25, 3, 0, [12, 10, 3, 1420]), (.iload_n 2, 1, 0, []), (.iload_n 3, 1, 0, []), (.iastore, 1, 0, [])] := rfl
set_option maxRecDepth 100000 in
theorem q173_69 (E : mj_E) (d w c : Nat) (hi : Nat → Nat → Int32) (hl : Nat → Nat → Int64) (v1 : Int32) (v2 : Int32) (v3 : Int32) : mj_den mj_P E d 173 69 [Value.ref 205, Value.int v1, Value.int v2, Value.int v3] [] (mj_hw w c hi hl) = if ¬ v1 = (4 : Int32) then mj_den mj_P E d 173 81 [Value.ref 205, Value.int v1, Value.int v2, Value.int v3] [] (mj_hw w c hi hl) else if 0 ≤ v2 ∧ (v2).toNatClampNeg < 12 then mj_den mj_P E d 173 81 [Value.ref 205, Value.int v1, Value.int v2, Value.int v3] [] (mj_hw w c (mj_u hi 211 ((v2).toNatClampNeg) v3) hl) else none := by
  rw [mj_den_eq, f173_69]
  exact zt_iload_n rfl rfl (zt_iconst rfl (zt_icmp_ne rfl rfl (zt_aload_n rfl rfl (zt_getr (mjkd205 _ _ _ _) (mjhr205_10 w c) rfl (zt_iload_n rfl rfl (zt_iload_n rfl rfl (zt_iast (mjkd211 _ _ _ _) (mjln211 _ _ _ _) rfl rfl (zt_end rfl))))))))
set_option maxRecDepth 100000 in
theorem f173_81 : mj_find (mj_P 173).2.2.2.2 81 = [(.aload_n 0, 1, 0, []), (.iconst 0, 1, 0, []), (.putfield 125, 3, 0, [12, 3, 0, 1413]), (.iconst 1, 1, 1, []), (.ireturn, 1, 0, [1])] := rfl
set_option maxRecDepth 100000 in
theorem q173_81 (E : mj_E) (d w c : Nat) (hi : Nat → Nat → Int32) (hl : Nat → Nat → Int64) (v1 : Int32) (v2 : Int32) (v3 : Int32) : mj_den mj_P E d 173 81 [Value.ref 205, Value.int v1, Value.int v2, Value.int v3] [] (mj_hw w c hi hl) = if (1 : Int32) = 0 ∨ (1 : Int32) = 1 then some (some (Value.int (1 : Int32)), (mj_hw w c (mj_u hi 205 3 (0 : Int32)) hl)) else none := by
  rw [mj_den_eq, f173_81]
  exact zt_aload_n rfl rfl (zt_iconst rfl (zt_puti (mjkd205 _ _ _ _) rfl rfl (zt_iconst rfl (zt_ireturn1))))
set_option maxRecDepth 100000 in
theorem f174_0 : mj_find (mj_P 174).2.2.2.2 0 = [(.bipush 24, 2, 24, []), (.istore_n 2, 1, 0, [])] := rfl
set_option maxRecDepth 100000 in
theorem q174_0 (E : mj_E) (d w c : Nat) (hi : Nat → Nat → Int32) (hl : Nat → Nat → Int64) (v1 : Int32) : mj_den mj_P E d 174 0 [Value.ref 205, Value.int v1, Value.float 0] [] (mj_hw w c hi hl) = mj_den mj_P E d 174 3 [Value.ref 205, Value.int v1, Value.int (24 : Int32)] [] (mj_hw w c hi hl) := by
  rw [mj_den_eq, f174_0]
  exact zt_bipush rfl (zt_istore_n (Nat.le_of_ble_eq_true rfl) rfl rfl (zt_end rfl))
set_option maxRecDepth 100000 in
theorem f174_3 : mj_find (mj_P 174).2.2.2.2 3 = [(.iload_n 2, 1, 0, []), (.ifCond .lt 35, 3, 0, [39]), (.aload_n 0, 1, 0, []), (.getfield 34, 3, 0, [12, 13, 3, 1423]), (.aload_n 0, 1, 0, []), (.getfield 158, 3, 0, [12, 14, 0, 1424]), (.iload_n 1, 1, 0, []), (.iload_n 2, 1, 0, []), (.ishr, 1, 0, []), (.sipush 255, 3, 255, []), (.iand, 1, 0, []), (.iastore, 1, 0, []), (.aload_n 0, 1, 0, []), (.aload_n 0, 1, 0, []), (.getfield 158, 3, 0, [12, 14, 0, 1424]), (.iconst 1, 1, 1, []), (.iadd, 1, 0, []), (.putfield 158, 3, 0, [12, 14, 0, 1424]), (.iinc 2 (-8), 3, (-8), []), (.goto (-33), 3, 0, [3])] := rfl
set_option maxRecDepth 100000 in
theorem q174_3 (E : mj_E) (d w c : Nat) (hi : Nat → Nat → Int32) (hl : Nat → Nat → Int64) (v1 : Int32) (v2 : Int32) : mj_den mj_P E d 174 3 [Value.ref 205, Value.int v1, Value.int v2] [] (mj_hw w c hi hl) = if v2 < 0 then mj_den mj_P E d 174 39 [Value.ref 205, Value.int v1, Value.int v2] [] (mj_hw w c hi hl) else if 0 ≤ (hi 205 14) ∧ ((hi 205 14)).toNatClampNeg < 400 then mj_den mj_P E d 174 3 [Value.ref 205, Value.int v1, Value.int (v2 + (-8 : Int32))] [] (mj_hw w c (mj_u (mj_u hi 214 (((hi 205 14)).toNatClampNeg) ((v1 >>> (v2 &&& 31)) &&& (255 : Int32))) 205 14 ((hi 205 14) + (1 : Int32))) hl) else none := by
  rw [mj_den_eq, f174_3]
  exact zt_iload_n rfl rfl (zt_if_lt rfl rfl (zt_aload_n rfl rfl (zt_getr (mjkd205 _ _ _ _) (mjhr205_13 w c) rfl (zt_aload_n rfl rfl (zt_geti (mjkd205 _ _ _ _) rfl rfl (zt_iload_n rfl rfl (zt_iload_n rfl rfl (zt_ishr rfl (zt_sipush rfl (zt_iand rfl (zt_iast (mjkd214 _ _ _ _) (mjln214 _ _ _ _) rfl rfl (zt_aload_n rfl rfl (zt_aload_n rfl rfl (zt_geti (mjkd205 _ _ _ _) rfl rfl (zt_iconst rfl (zt_iadd rfl (zt_puti (mjkd205 _ _ _ _) rfl rfl (zt_iinc rfl (Nat.le_of_ble_eq_true rfl) rfl rfl (zt_goto rfl)))))))))))))))))))
set_option maxRecDepth 100000 in
theorem f174_39 : mj_find (mj_P 174).2.2.2.2 39 = [(.return_, 1, 0, [])] := rfl
set_option maxRecDepth 100000 in
theorem q174_39 (E : mj_E) (d w c : Nat) (hi : Nat → Nat → Int32) (hl : Nat → Nat → Int64) (v1 : Int32) (v2 : Int32) : mj_den mj_P E d 174 39 [Value.ref 205, Value.int v1, Value.int v2] [] (mj_hw w c hi hl) = some (none, (mj_hw w c hi hl)) := by
  rw [mj_den_eq, f174_39]
  exact zt_return
set_option maxRecDepth 100000 in
theorem f175_0 : mj_find (mj_P 175).2.2.2.2 0 = [(.aload_n 0, 1, 0, []), (.iconst 0, 1, 0, []), (.putfield 122, 3, 0, [12, 0, 0, 1410]), (.aload_n 0, 1, 0, []), (.getfield 158, 3, 0, [12, 14, 0, 1424]), (.sipush 380, 3, 380, []), (.if_icmp .le 5, 3, 0, [17]), (.iconst (-1), 1, (-1), []), (.ireturn, 1, 0, [0])] := rfl
set_option maxRecDepth 100000 in
theorem q175_0 (E : mj_E) (d w c : Nat) (hi : Nat → Nat → Int32) (hl : Nat → Nat → Int64) (v1 : Int32) (v2 : Int32) (v3 : Int32) (v4 : Int32) (v5 : Int32) : mj_den mj_P E d 175 0 [Value.ref 205, Value.int v1, Value.int v2, Value.int v3, Value.int v4, Value.int v5] [] (mj_hw w c hi hl) = if (hi 205 14) ≤ (380 : Int32) then mj_den mj_P E d 175 17 [Value.ref 205, Value.int v1, Value.int v2, Value.int v3, Value.int v4, Value.int v5] [] (mj_hw w c (mj_u hi 205 0 (0 : Int32)) hl) else some (some (Value.int (-1 : Int32)), (mj_hw w c (mj_u hi 205 0 (0 : Int32)) hl)) := by
  rw [mj_den_eq, f175_0]
  exact zt_aload_n rfl rfl (zt_iconst rfl (zt_puti (mjkd205 _ _ _ _) rfl rfl (zt_aload_n rfl rfl (zt_geti (mjkd205 _ _ _ _) rfl rfl (zt_sipush rfl (zt_icmp_le rfl rfl (zt_iconst rfl (zt_ireturn0))))))))
set_option maxRecDepth 100000 in
theorem f175_17 : mj_find (mj_P 175).2.2.2.2 17 = [(.aload_n 0, 1, 0, []), (.iload_n 1, 1, 0, []), (.invokevirtual 161, 3, 0, [0, 174, 12, 1, 0, 1652, 1654, 46, 156, 1655])] := rfl
set_option maxRecDepth 100000 in
theorem q175_17 (E : mj_E) (d w c : Nat) (hi : Nat → Nat → Int32) (hl : Nat → Nat → Int64) (v1 : Int32) (v2 : Int32) (v3 : Int32) (v4 : Int32) (v5 : Int32) : mj_den mj_P E d 175 17 [Value.ref 205, Value.int v1, Value.int v2, Value.int v3, Value.int v4, Value.int v5] [] (mj_hw w c hi hl) = mj_bv (mj_dc mj_P E d 174 [Value.ref 205, Value.int v1] (mj_hw w c hi hl)) (fun h1 => mj_den mj_P E d 175 22 [Value.ref 205, Value.int v1, Value.int v2, Value.int v3, Value.int v4, Value.int v5] [] h1) := by
  rw [mj_den_eq, f175_17]
  exact zt_aload_n rfl rfl (zt_iload_n rfl rfl (zt_call0_0 rfl (mjkd205 _ _ _ _) (Nat.le_of_ble_eq_true rfl) rfl rfl))
set_option maxRecDepth 100000 in
theorem f175_22 : mj_find (mj_P 175).2.2.2.2 22 = [(.aload_n 0, 1, 0, []), (.iload_n 2, 1, 0, []), (.invokevirtual 161, 3, 0, [0, 174, 12, 1, 0, 1652, 1654, 46, 156, 1655])] := rfl
set_option maxRecDepth 100000 in
theorem q175_22 (E : mj_E) (d w c : Nat) (hi : Nat → Nat → Int32) (hl : Nat → Nat → Int64) (v1 : Int32) (v2 : Int32) (v3 : Int32) (v4 : Int32) (v5 : Int32) : mj_den mj_P E d 175 22 [Value.ref 205, Value.int v1, Value.int v2, Value.int v3, Value.int v4, Value.int v5] [] (mj_hw w c hi hl) = mj_bv (mj_dc mj_P E d 174 [Value.ref 205, Value.int v2] (mj_hw w c hi hl)) (fun h1 => mj_den mj_P E d 175 27 [Value.ref 205, Value.int v1, Value.int v2, Value.int v3, Value.int v4, Value.int v5] [] h1) := by
  rw [mj_den_eq, f175_22]
  exact zt_aload_n rfl rfl (zt_iload_n rfl rfl (zt_call0_0 rfl (mjkd205 _ _ _ _) (Nat.le_of_ble_eq_true rfl) rfl rfl))
set_option maxRecDepth 100000 in
theorem f175_27 : mj_find (mj_P 175).2.2.2.2 27 = [(.aload_n 0, 1, 0, []), (.iload_n 3, 1, 0, []), (.invokevirtual 161, 3, 0, [0, 174, 12, 1, 0, 1652, 1654, 46, 156, 1655])] := rfl
set_option maxRecDepth 100000 in
theorem q175_27 (E : mj_E) (d w c : Nat) (hi : Nat → Nat → Int32) (hl : Nat → Nat → Int64) (v1 : Int32) (v2 : Int32) (v3 : Int32) (v4 : Int32) (v5 : Int32) : mj_den mj_P E d 175 27 [Value.ref 205, Value.int v1, Value.int v2, Value.int v3, Value.int v4, Value.int v5] [] (mj_hw w c hi hl) = mj_bv (mj_dc mj_P E d 174 [Value.ref 205, Value.int v3] (mj_hw w c hi hl)) (fun h1 => mj_den mj_P E d 175 32 [Value.ref 205, Value.int v1, Value.int v2, Value.int v3, Value.int v4, Value.int v5] [] h1) := by
  rw [mj_den_eq, f175_27]
  exact zt_aload_n rfl rfl (zt_iload_n rfl rfl (zt_call0_0 rfl (mjkd205 _ _ _ _) (Nat.le_of_ble_eq_true rfl) rfl rfl))
set_option maxRecDepth 100000 in
theorem f175_32 : mj_find (mj_P 175).2.2.2.2 32 = [(.aload_n 0, 1, 0, []), (.iload 4, 2, 0, []), (.invokevirtual 161, 3, 0, [0, 174, 12, 1, 0, 1652, 1654, 46, 156, 1655])] := rfl
set_option maxRecDepth 100000 in
theorem q175_32 (E : mj_E) (d w c : Nat) (hi : Nat → Nat → Int32) (hl : Nat → Nat → Int64) (v1 : Int32) (v2 : Int32) (v3 : Int32) (v4 : Int32) (v5 : Int32) : mj_den mj_P E d 175 32 [Value.ref 205, Value.int v1, Value.int v2, Value.int v3, Value.int v4, Value.int v5] [] (mj_hw w c hi hl) = mj_bv (mj_dc mj_P E d 174 [Value.ref 205, Value.int v4] (mj_hw w c hi hl)) (fun h1 => mj_den mj_P E d 175 38 [Value.ref 205, Value.int v1, Value.int v2, Value.int v3, Value.int v4, Value.int v5] [] h1) := by
  rw [mj_den_eq, f175_32]
  exact zt_aload_n rfl rfl (zt_iload rfl rfl (zt_call0_0 rfl (mjkd205 _ _ _ _) (Nat.le_of_ble_eq_true rfl) rfl rfl))
set_option maxRecDepth 100000 in
theorem f175_38 : mj_find (mj_P 175).2.2.2.2 38 = [(.aload_n 0, 1, 0, []), (.iload 5, 2, 0, []), (.invokevirtual 161, 3, 0, [0, 174, 12, 1, 0, 1652, 1654, 46, 156, 1655])] := rfl
set_option maxRecDepth 100000 in
theorem q175_38 (E : mj_E) (d w c : Nat) (hi : Nat → Nat → Int32) (hl : Nat → Nat → Int64) (v1 : Int32) (v2 : Int32) (v3 : Int32) (v4 : Int32) (v5 : Int32) : mj_den mj_P E d 175 38 [Value.ref 205, Value.int v1, Value.int v2, Value.int v3, Value.int v4, Value.int v5] [] (mj_hw w c hi hl) = mj_bv (mj_dc mj_P E d 174 [Value.ref 205, Value.int v5] (mj_hw w c hi hl)) (fun h1 => mj_den mj_P E d 175 44 [Value.ref 205, Value.int v1, Value.int v2, Value.int v3, Value.int v4, Value.int v5] [] h1) := by
  rw [mj_den_eq, f175_38]
  exact zt_aload_n rfl rfl (zt_iload rfl rfl (zt_call0_0 rfl (mjkd205 _ _ _ _) (Nat.le_of_ble_eq_true rfl) rfl rfl))
set_option maxRecDepth 100000 in
theorem f175_44 : mj_find (mj_P 175).2.2.2.2 44 = [(.aload_n 0, 1, 0, []), (.getfield 158, 3, 0, [12, 14, 0, 1424]), (.ireturn, 1, 0, [0])] := rfl
set_option maxRecDepth 100000 in
theorem q175_44 (E : mj_E) (d w c : Nat) (hi : Nat → Nat → Int32) (hl : Nat → Nat → Int64) (v1 : Int32) (v2 : Int32) (v3 : Int32) (v4 : Int32) (v5 : Int32) : mj_den mj_P E d 175 44 [Value.ref 205, Value.int v1, Value.int v2, Value.int v3, Value.int v4, Value.int v5] [] (mj_hw w c hi hl) = some (some (Value.int (hi 205 14)), (mj_hw w c hi hl)) := by
  rw [mj_den_eq, f175_44]
  exact zt_aload_n rfl rfl (zt_geti (mjkd205 _ _ _ _) rfl rfl (zt_ireturn0))
set_option maxRecDepth 100000 in
theorem f176_0 : mj_find (mj_P 176).2.2.2.2 0 = [(.aload_n 0, 1, 0, []), (.iconst 0, 1, 0, []), (.putfield 122, 3, 0, [12, 0, 0, 1410]), (.aload_n 0, 1, 0, []), (.iload_n 1, 1, 0, []), (.iconst 0, 1, 0, []), (.aload_n 0, 1, 0, []), (.getfield 158, 3, 0, [12, 14, 0, 1424]), (.invokevirtual 144, 3, 0, [0, 152, 12, 3, 1, 1624, 1626, 42, 156, 1627])] := rfl
set_option maxRecDepth 100000 in
theorem q176_0 (E : mj_E) (d w c : Nat) (hi : Nat → Nat → Int32) (hl : Nat → Nat → Int64) (v1 : Int32) : mj_den mj_P E d 176 0 [Value.ref 205, Value.int v1] [] (mj_hw w c hi hl) = mj_bi (mj_dc mj_P E d 152 [Value.ref 205, Value.int v1, Value.int (0 : Int32), Value.int (hi 205 14)] (mj_hw w c (mj_u hi 205 0 (0 : Int32)) hl)) (fun x1 h1 => mj_den mj_P E d 176 15 [Value.ref 205, Value.int v1] [Value.int x1] h1) := by
  rw [mj_den_eq, f176_0]
  exact zt_aload_n rfl rfl (zt_iconst rfl (zt_puti (mjkd205 _ _ _ _) rfl rfl (zt_aload_n rfl rfl (zt_iload_n rfl rfl (zt_iconst rfl (zt_aload_n rfl rfl (zt_geti (mjkd205 _ _ _ _) rfl rfl (zt_call0_1 rfl (mjkd205 _ _ _ _) (Nat.le_of_ble_eq_true rfl) rfl rfl))))))))
set_option maxRecDepth 100000 in
theorem f176_15 : mj_find (mj_P 176).2.2.2.2 15 = [(.ifCond .ne 5, 3, 0, [20]), (.iconst 0, 1, 0, []), (.ireturn, 1, 0, [1])] := rfl
set_option maxRecDepth 100000 in
theorem q176_15 (E : mj_E) (d w c : Nat) (hi : Nat → Nat → Int32) (hl : Nat → Nat → Int64) (v1 : Int32) (s0 : Int32) : mj_den mj_P E d 176 15 [Value.ref 205, Value.int v1] [Value.int s0] (mj_hw w c hi hl) = if ¬ s0 = 0 then mj_den mj_P E d 176 20 [Value.ref 205, Value.int v1] [] (mj_hw w c hi hl) else if (0 : Int32) = 0 ∨ (0 : Int32) = 1 then some (some (Value.int (0 : Int32)), (mj_hw w c hi hl)) else none := by
  rw [mj_den_eq, f176_15]
  exact zt_if_ne rfl rfl (zt_iconst rfl (zt_ireturn1))
set_option maxRecDepth 100000 in
theorem f176_20 : mj_find (mj_P 176).2.2.2.2 20 = [(.aload_n 0, 1, 0, []), (.iload_n 1, 1, 0, []), (.putfield 158, 3, 0, [12, 14, 0, 1424]), (.iconst 1, 1, 1, []), (.ireturn, 1, 0, [1])] := rfl
set_option maxRecDepth 100000 in
theorem q176_20 (E : mj_E) (d w c : Nat) (hi : Nat → Nat → Int32) (hl : Nat → Nat → Int64) (v1 : Int32) : mj_den mj_P E d 176 20 [Value.ref 205, Value.int v1] [] (mj_hw w c hi hl) = if (1 : Int32) = 0 ∨ (1 : Int32) = 1 then some (some (Value.int (1 : Int32)), (mj_hw w c (mj_u hi 205 14 v1) hl)) else none := by
  rw [mj_den_eq, f176_20]
  exact zt_aload_n rfl rfl (zt_iload_n rfl rfl (zt_puti (mjkd205 _ _ _ _) rfl rfl (zt_iconst rfl (zt_ireturn1))))
set_option maxRecDepth 100000 in
theorem f177_0 : mj_find (mj_P 177).2.2.2.2 0 = [(.iload_n 1, 1, 0, []), (.aload_n 0, 1, 0, []), (.getfield 158, 3, 0, [12, 14, 0, 1424]), (.if_icmp .ge 12, 3, 0, [17]), (.aload_n 0, 1, 0, []), (.getfield 34, 3, 0, [12, 13, 3, 1423]), (.iload_n 1, 1, 0, []), (.iaload, 1, 0, []), (.goto 4, 3, 0, [18])] := rfl
set_option maxRecDepth 100000 in
theorem q177_0 (E : mj_E) (d w c : Nat) (hi : Nat → Nat → Int32) (hl : Nat → Nat → Int64) (v1 : Int32) : mj_den mj_P E d 177 0 [Value.ref 205, Value.int v1] [] (mj_hw w c hi hl) = if (hi 205 14) ≤ v1 then mj_den mj_P E d 177 17 [Value.ref 205, Value.int v1] [] (mj_hw w c hi hl) else if 0 ≤ v1 ∧ (v1).toNatClampNeg < 400 then mj_den mj_P E d 177 18 [Value.ref 205, Value.int v1] [Value.int (hi 214 ((v1).toNatClampNeg))] (mj_hw w c hi hl) else none := by
  rw [mj_den_eq, f177_0]
  exact zt_iload_n rfl rfl (zt_aload_n rfl rfl (zt_geti (mjkd205 _ _ _ _) rfl rfl (zt_icmp_ge rfl rfl (zt_aload_n rfl rfl (zt_getr (mjkd205 _ _ _ _) (mjhr205_13 w c) rfl (zt_iload_n rfl rfl (zt_iald (mjkd214 _ _ _ _) (mjln214 _ _ _ _) rfl rfl (zt_goto rfl))))))))
set_option maxRecDepth 100000 in
theorem f177_17 : mj_find (mj_P 177).2.2.2.2 17 = [(.iconst (-1), 1, (-1), [])] := rfl
set_option maxRecDepth 100000 in
theorem q177_17 (E : mj_E) (d w c : Nat) (hi : Nat → Nat → Int32) (hl : Nat → Nat → Int64) (v1 : Int32) : mj_den mj_P E d 177 17 [Value.ref 205, Value.int v1] [] (mj_hw w c hi hl) = mj_den mj_P E d 177 18 [Value.ref 205, Value.int v1] [Value.int (-1 : Int32)] (mj_hw w c hi hl) := by
  rw [mj_den_eq, f177_17]
  exact zt_iconst rfl (zt_end rfl)
set_option maxRecDepth 100000 in
theorem f177_18 : mj_find (mj_P 177).2.2.2.2 18 = [(.ireturn, 1, 0, [0])] := rfl
set_option maxRecDepth 100000 in
theorem q177_18 (E : mj_E) (d w c : Nat) (hi : Nat → Nat → Int32) (hl : Nat → Nat → Int64) (v1 : Int32) (s0 : Int32) : mj_den mj_P E d 177 18 [Value.ref 205, Value.int v1] [Value.int s0] (mj_hw w c hi hl) = some (some (Value.int s0), (mj_hw w c hi hl)) := by
  rw [mj_den_eq, f177_18]
  exact zt_ireturn0
set_option maxRecDepth 100000 in
theorem f178_0 : mj_find (mj_P 178).2.2.2.2 0 = [(.aload_n 0, 1, 0, []), (.iload_n 1, 1, 0, []), (.bipush 97, 2, 97, []), (.bipush 122, 2, 122, []), (.invokevirtual 144, 3, 0, [0, 152, 12, 3, 1, 1624, 1626, 42, 156, 1627])] := rfl
set_option maxRecDepth 100000 in
theorem q178_0 (E : mj_E) (d w c : Nat) (hi : Nat → Nat → Int32) (hl : Nat → Nat → Int64) (v1 : Int32) : mj_den mj_P E d 178 0 [Value.ref 205, Value.int v1] [] (mj_hw w c hi hl) = mj_bi (mj_dc mj_P E d 152 [Value.ref 205, Value.int v1, Value.int (97 : Int32), Value.int (122 : Int32)] (mj_hw w c hi hl)) (fun x1 h1 => mj_den mj_P E d 178 9 [Value.ref 205, Value.int v1] [Value.int x1] h1) := by
  rw [mj_den_eq, f178_0]
  exact zt_aload_n rfl rfl (zt_iload_n rfl rfl (zt_bipush rfl (zt_bipush rfl (zt_call0_1 rfl (mjkd205 _ _ _ _) (Nat.le_of_ble_eq_true rfl) rfl rfl))))
set_option maxRecDepth 100000 in
theorem f178_9 : mj_find (mj_P 178).2.2.2.2 9 = [(.ifCond .ne 15, 3, 0, [24]), (.aload_n 0, 1, 0, []), (.iload_n 1, 1, 0, []), (.bipush 65, 2, 65, []), (.bipush 90, 2, 90, []), (.invokevirtual 144, 3, 0, [0, 152, 12, 3, 1, 1624, 1626, 42, 156, 1627])] := rfl
set_option maxRecDepth 100000 in
theorem q178_9 (E : mj_E) (d w c : Nat) (hi : Nat → Nat → Int32) (hl : Nat → Nat → Int64) (v1 : Int32) (s0 : Int32) : mj_den mj_P E d 178 9 [Value.ref 205, Value.int v1] [Value.int s0] (mj_hw w c hi hl) = if ¬ s0 = 0 then mj_den mj_P E d 178 24 [Value.ref 205, Value.int v1] [] (mj_hw w c hi hl) else mj_bi (mj_dc mj_P E d 152 [Value.ref 205, Value.int v1, Value.int (65 : Int32), Value.int (90 : Int32)] (mj_hw w c hi hl)) (fun x1 h1 => mj_den mj_P E d 178 21 [Value.ref 205, Value.int v1] [Value.int x1] h1) := by
  rw [mj_den_eq, f178_9]
  exact zt_if_ne rfl rfl (zt_aload_n rfl rfl (zt_iload_n rfl rfl (zt_bipush rfl (zt_bipush rfl (zt_call0_1 rfl (mjkd205 _ _ _ _) (Nat.le_of_ble_eq_true rfl) rfl rfl)))))
set_option maxRecDepth 100000 in
theorem f178_21 : mj_find (mj_P 178).2.2.2.2 21 = [(.ifCond .eq 7, 3, 0, [28])] := rfl
set_option maxRecDepth 100000 in
theorem q178_21 (E : mj_E) (d w c : Nat) (hi : Nat → Nat → Int32) (hl : Nat → Nat → Int64) (v1 : Int32) (s0 : Int32) : mj_den mj_P E d 178 21 [Value.ref 205, Value.int v1] [Value.int s0] (mj_hw w c hi hl) = if s0 = 0 then mj_den mj_P E d 178 28 [Value.ref 205, Value.int v1] [] (mj_hw w c hi hl) else mj_den mj_P E d 178 24 [Value.ref 205, Value.int v1] [] (mj_hw w c hi hl) := by
  rw [mj_den_eq, f178_21]
  exact zt_if_eq rfl rfl (zt_end rfl)
set_option maxRecDepth 100000 in
theorem f178_24 : mj_find (mj_P 178).2.2.2.2 24 = [(.iconst 1, 1, 1, []), (.goto 4, 3, 0, [29])] := rfl
set_option maxRecDepth 100000 in
theorem q178_24 (E : mj_E) (d w c : Nat) (hi : Nat → Nat → Int32) (hl : Nat → Nat → Int64) (v1 : Int32) : mj_den mj_P E d 178 24 [Value.ref 205, Value.int v1] [] (mj_hw w c hi hl) = mj_den mj_P E d 178 29 [Value.ref 205, Value.int v1] [Value.int (1 : Int32)] (mj_hw w c hi hl) := by
  rw [mj_den_eq, f178_24]
  exact zt_iconst rfl (zt_goto rfl)
set_option maxRecDepth 100000 in
theorem f178_28 : mj_find (mj_P 178).2.2.2.2 28 = [(.iconst 0, 1, 0, [])] := rfl
set_option maxRecDepth 100000 in
theorem q178_28 (E : mj_E) (d w c : Nat) (hi : Nat → Nat → Int32) (hl : Nat → Nat → Int64) (v1 : Int32) : mj_den mj_P E d 178 28 [Value.ref 205, Value.int v1] [] (mj_hw w c hi hl) = mj_den mj_P E d 178 29 [Value.ref 205, Value.int v1] [Value.int (0 : Int32)] (mj_hw w c hi hl) := by
  rw [mj_den_eq, f178_28]
  exact zt_iconst rfl (zt_end rfl)
set_option maxRecDepth 100000 in
theorem f178_29 : mj_find (mj_P 178).2.2.2.2 29 = [(.ireturn, 1, 0, [1])] := rfl
set_option maxRecDepth 100000 in
theorem q178_29 (E : mj_E) (d w c : Nat) (hi : Nat → Nat → Int32) (hl : Nat → Nat → Int64) (v1 : Int32) (s0 : Int32) : mj_den mj_P E d 178 29 [Value.ref 205, Value.int v1] [Value.int s0] (mj_hw w c hi hl) = if s0 = 0 ∨ s0 = 1 then some (some (Value.int s0), (mj_hw w c hi hl)) else none := by
  rw [mj_den_eq, f178_29]
  exact zt_ireturn1
set_option maxRecDepth 100000 in
theorem f179_0 : mj_find (mj_P 179).2.2.2.2 0 = [(.aload_n 0, 1, 0, []), (.iload_n 1, 1, 0, []), (.bipush 48, 2, 48, []), (.bipush 57, 2, 57, []), (.invokevirtual 144, 3, 0, [0, 152, 12, 3, 1, 1624, 1626, 42, 156, 1627])] := rfl
set_option maxRecDepth 100000 in
theorem q179_0 (E : mj_E) (d w c : Nat) (hi : Nat → Nat → Int32) (hl : Nat → Nat → Int64) (v1 : Int32) : mj_den mj_P E d 179 0 [Value.ref 205, Value.int v1] [] (mj_hw w c hi hl) = mj_bi (mj_dc mj_P E d 152 [Value.ref 205, Value.int v1, Value.int (48 : Int32), Value.int (57 : Int32)] (mj_hw w c hi hl)) (fun x1 h1 => mj_den mj_P E d 179 9 [Value.ref 205, Value.int v1] [Value.int x1] h1) := by
  rw [mj_den_eq, f179_0]
  exact zt_aload_n rfl rfl (zt_iload_n rfl rfl (zt_bipush rfl (zt_bipush rfl (zt_call0_1 rfl (mjkd205 _ _ _ _) (Nat.le_of_ble_eq_true rfl) rfl rfl))))
set_option maxRecDepth 100000 in
theorem f179_9 : mj_find (mj_P 179).2.2.2.2 9 = [(.ireturn, 1, 0, [1])] := rfl
set_option maxRecDepth 100000 in
theorem q179_9 (E : mj_E) (d w c : Nat) (hi : Nat → Nat → Int32) (hl : Nat → Nat → Int64) (v1 : Int32) (s0 : Int32) : mj_den mj_P E d 179 9 [Value.ref 205, Value.int v1] [Value.int s0] (mj_hw w c hi hl) = if s0 = 0 ∨ s0 = 1 then some (some (Value.int s0), (mj_hw w c hi hl)) else none := by
  rw [mj_den_eq, f179_9]
  exact zt_ireturn1
set_option maxRecDepth 100000 in
theorem f180_0 : mj_find (mj_P 180).2.2.2.2 0 = [(.iload_n 1, 1, 0, []), (.bipush 59, 2, 59, []), (.if_icmp .eq 57, 3, 0, [60]), (.iload_n 1, 1, 0, []), (.bipush 43, 2, 43, []), (.if_icmp .eq 51, 3, 0, [60]), (.iload_n 1, 1, 0, []), (.bipush 45, 2, 45, []), (.if_icmp .eq 45, 3, 0, [60]), (.iload_n 1, 1, 0, []), (.bipush 42, 2, 42, []), (.if_icmp .eq 39, 3, 0, [60]), (.iload_n 1, 1, 0, []), (.bipush 47, 2, 47, []), (.if_icmp .eq 33, 3, 0, [60]), (.iload_n 1, 1, 0, []), (.bipush 40, 2, 40, []), (.if_icmp .eq 27, 3, 0, [60]), (.iload_n 1, 1, 0, []), (.bipush 41, 2, 41, []), (.if_icmp .eq 21, 3, 0, [60]), (.iload_n 1, 1, 0, []), (.bipush 60, 2, 60, []), (.if_icmp .eq 15, 3, 0, [60]), (.iload_n 1, 1, 0, []), (.bipush 61, 2, 61, []), (.if_icmp .eq 9, 3, 0, [60]), (.iload_n 1, 1, 0, []), (.bipush 62, 2, 62, []), (.if_icmp .ne 7, 3, 0, [64])] := rfl
set_option maxRecDepth 100000 in
theorem q180_0 (E : mj_E) (d w c : Nat) (hi : Nat → Nat → Int32) (hl : Nat → Nat → Int64) (v1 : Int32) : mj_den mj_P E d 180 0 [Value.ref 205, Value.int v1] [] (mj_hw w c hi hl) = if v1 = (59 : Int32) then mj_den mj_P E d 180 60 [Value.ref 205, Value.int v1] [] (mj_hw w c hi hl) else if v1 = (43 : Int32) then mj_den mj_P E d 180 60 [Value.ref 205, Value.int v1] [] (mj_hw w c hi hl) else if v1 = (45 : Int32) then mj_den mj_P E d 180 60 [Value.ref 205, Value.int v1] [] (mj_hw w c hi hl) else if v1 = (42 : Int32) then mj_den mj_P E d 180 60 [Value.ref 205, Value.int v1] [] (mj_hw w c hi hl) else if v1 = (47 : Int32) then mj_den mj_P E d 180 60 [Value.ref 205, Value.int v1] [] (mj_hw w c hi hl) else if v1 = (40 : Int32) then mj_den mj_P E d 180 60 [Value.ref 205, Value.int v1] [] (mj_hw w c hi hl) else if v1 = (41 : Int32) then mj_den mj_P E d 180 60 [Value.ref 205, Value.int v1] [] (mj_hw w c hi hl) else if v1 = (60 : Int32) then mj_den mj_P E d 180 60 [Value.ref 205, Value.int v1] [] (mj_hw w c hi hl) else if v1 = (61 : Int32) then mj_den mj_P E d 180 60 [Value.ref 205, Value.int v1] [] (mj_hw w c hi hl) else if ¬ v1 = (62 : Int32) then mj_den mj_P E d 180 64 [Value.ref 205, Value.int v1] [] (mj_hw w c hi hl) else mj_den mj_P E d 180 60 [Value.ref 205, Value.int v1] [] (mj_hw w c hi hl) := by
  rw [mj_den_eq, f180_0]
  exact zt_iload_n rfl rfl (zt_bipush rfl (zt_icmp_eq rfl rfl (zt_iload_n rfl rfl (zt_bipush rfl (zt_icmp_eq rfl rfl (zt_iload_n rfl rfl (zt_bipush rfl (zt_icmp_eq rfl rfl (zt_iload_n rfl rfl (zt_bipush rfl (zt_icmp_eq rfl rfl (zt_iload_n rfl rfl (zt_bipush rfl (zt_icmp_eq rfl rfl (zt_iload_n rfl rfl (zt_bipush rfl (zt_icmp_eq rfl rfl (zt_iload_n rfl rfl (zt_bipush rfl (zt_icmp_eq rfl rfl (zt_iload_n rfl rfl (zt_bipush rfl (zt_icmp_eq rfl rfl (zt_iload_n rfl rfl (zt_bipush rfl (zt_icmp_eq rfl rfl (zt_iload_n rfl rfl (zt_bipush rfl (zt_icmp_ne rfl rfl (zt_end rfl))))))))))))))))))))))))))))))
set_option maxRecDepth 100000 in
theorem f180_60 : mj_find (mj_P 180).2.2.2.2 60 = [(.iconst 1, 1, 1, []), (.goto 4, 3, 0, [65])] := rfl
set_option maxRecDepth 100000 in
theorem q180_60 (E : mj_E) (d w c : Nat) (hi : Nat → Nat → Int32) (hl : Nat → Nat → Int64) (v1 : Int32) : mj_den mj_P E d 180 60 [Value.ref 205, Value.int v1] [] (mj_hw w c hi hl) = mj_den mj_P E d 180 65 [Value.ref 205, Value.int v1] [Value.int (1 : Int32)] (mj_hw w c hi hl) := by
  rw [mj_den_eq, f180_60]
  exact zt_iconst rfl (zt_goto rfl)
set_option maxRecDepth 100000 in
theorem f180_64 : mj_find (mj_P 180).2.2.2.2 64 = [(.iconst 0, 1, 0, [])] := rfl
set_option maxRecDepth 100000 in
theorem q180_64 (E : mj_E) (d w c : Nat) (hi : Nat → Nat → Int32) (hl : Nat → Nat → Int64) (v1 : Int32) : mj_den mj_P E d 180 64 [Value.ref 205, Value.int v1] [] (mj_hw w c hi hl) = mj_den mj_P E d 180 65 [Value.ref 205, Value.int v1] [Value.int (0 : Int32)] (mj_hw w c hi hl) := by
  rw [mj_den_eq, f180_64]
  exact zt_iconst rfl (zt_end rfl)
set_option maxRecDepth 100000 in
theorem f180_65 : mj_find (mj_P 180).2.2.2.2 65 = [(.ireturn, 1, 0, [1])] := rfl
set_option maxRecDepth 100000 in
theorem q180_65 (E : mj_E) (d w c : Nat) (hi : Nat → Nat → Int32) (hl : Nat → Nat → Int64) (v1 : Int32) (s0 : Int32) : mj_den mj_P E d 180 65 [Value.ref 205, Value.int v1] [Value.int s0] (mj_hw w c hi hl) = if s0 = 0 ∨ s0 = 1 then some (some (Value.int s0), (mj_hw w c hi hl)) else none := by
  rw [mj_den_eq, f180_65]
  exact zt_ireturn1
set_option maxRecDepth 100000 in
theorem f181_0 : mj_find (mj_P 181).2.2.2.2 0 = [(.iconst (-1), 1, (-1), []), (.istore_n 3, 1, 0, []), (.iconst 0, 1, 0, []), (.istore 4, 2, 0, [])] := rfl
set_option maxRecDepth 100000 in
theorem q181_0 (E : mj_E) (d w c : Nat) (hi : Nat → Nat → Int32) (hl : Nat → Nat → Int64) (v1 : Int32) (v2 : Int32) : mj_den mj_P E d 181 0 [Value.ref 205, Value.int v1, Value.int v2, Value.float 0, Value.float 0, Value.float 0] [] (mj_hw w c hi hl) = mj_den mj_P E d 181 5 [Value.ref 205, Value.int v1, Value.int v2, Value.int (-1 : Int32), Value.int (0 : Int32), Value.float 0] [] (mj_hw w c hi hl) := by
  rw [mj_den_eq, f181_0]
  exact zt_iconst rfl (zt_istore_n (Nat.le_of_ble_eq_true rfl) rfl rfl (zt_iconst rfl (zt_istore (Nat.le_of_ble_eq_true rfl) rfl rfl (zt_end rfl))))
set_option maxRecDepth 100000 in
theorem f181_5 : mj_find (mj_P 181).2.2.2.2 5 = [(.iload 4, 2, 0, []), (.sipush 131, 3, 131, []), (.if_icmp .ge 108, 3, 0, [118]), (.iconst 0, 1, 0, []), (.istore 5, 2, 0, []), (.iload_n 3, 1, 0, []), (.iconst 1, 1, 1, []), (.iadd, 1, 0, []), (.istore_n 3, 1, 0, [])] := rfl
set_option maxRecDepth 100000 in
theorem q181_5 (E : mj_E) (d w c : Nat) (hi : Nat → Nat → Int32) (hl : Nat → Nat → Int64) (v1 : Int32) (v2 : Int32) (v3 : Int32) (v4 : Int32) : mj_den mj_P E d 181 5 [Value.ref 205, Value.int v1, Value.int v2, Value.int v3, Value.int v4, Value.float 0] [] (mj_hw w c hi hl) = if (131 : Int32) ≤ v4 then mj_den mj_P E d 181 118 [Value.ref 205, Value.int v1, Value.int v2, Value.int v3, Value.int v4, Value.float 0] [] (mj_hw w c hi hl) else mj_den mj_P E d 181 20 [Value.ref 205, Value.int v1, Value.int v2, Value.int (v3 + (1 : Int32)), Value.int v4, Value.int (0 : Int32)] [] (mj_hw w c hi hl) := by
  rw [mj_den_eq, f181_5]
  exact zt_iload rfl rfl (zt_sipush rfl (zt_icmp_ge rfl rfl (zt_iconst rfl (zt_istore (Nat.le_of_ble_eq_true rfl) rfl rfl (zt_iload_n rfl rfl (zt_iconst rfl (zt_iadd rfl (zt_istore_n (Nat.le_of_ble_eq_true rfl) rfl rfl (zt_end rfl)))))))))
set_option maxRecDepth 100000 in
theorem q181_5_1 (E : mj_E) (d w c : Nat) (hi : Nat → Nat → Int32) (hl : Nat → Nat → Int64) (v1 : Int32) (v2 : Int32) (v3 : Int32) (v4 : Int32) (v5 : Int32) : mj_den mj_P E d 181 5 [Value.ref 205, Value.int v1, Value.int v2, Value.int v3, Value.int v4, Value.int v5] [] (mj_hw w c hi hl) = if (131 : Int32) ≤ v4 then mj_den mj_P E d 181 118 [Value.ref 205, Value.int v1, Value.int v2, Value.int v3, Value.int v4, Value.int v5] [] (mj_hw w c hi hl) else mj_den mj_P E d 181 20 [Value.ref 205, Value.int v1, Value.int v2, Value.int (v3 + (1 : Int32)), Value.int v4, Value.int (0 : Int32)] [] (mj_hw w c hi hl) := by
  rw [mj_den_eq, f181_5]
  exact zt_iload rfl rfl (zt_sipush rfl (zt_icmp_ge rfl rfl (zt_iconst rfl (zt_istore (Nat.le_of_ble_eq_true rfl) rfl rfl (zt_iload_n rfl rfl (zt_iconst rfl (zt_iadd rfl (zt_istore_n (Nat.le_of_ble_eq_true rfl) rfl rfl (zt_end rfl)))))))))
set_option maxRecDepth 100000 in
theorem f181_20 : mj_find (mj_P 181).2.2.2.2 20 = [(.iload_n 1, 1, 0, []), (.iload 5, 2, 0, []), (.iadd, 1, 0, []), (.iload_n 2, 1, 0, []), (.if_icmp .ge 36, 3, 0, [61]), (.aload_n 0, 1, 0, []), (.getfield 37, 3, 0, [12, 19, 3, 1429]), (.iload 4, 2, 0, []), (.iconst 1, 1, 1, []), (.iadd, 1, 0, []), (.iload 5, 2, 0, []), (.iadd, 1, 0, []), (.iaload, 1, 0, []), (.aload_n 0, 1, 0, []), (.getfield 34, 3, 0, [12, 13, 3, 1423]), (.iload_n 1, 1, 0, []), (.iload 5, 2, 0, []), (.iadd, 1, 0, []), (.iaload, 1, 0, []), (.if_icmp .ne 12, 3, 0, [61]), (.iload 5, 2, 0, []), (.iconst 1, 1, 1, []), (.iadd, 1, 0, []), (.istore 5, 2, 0, []), (.goto (-38), 3, 0, [20])] := rfl
set_option maxRecDepth 100000 in
theorem q181_20 (E : mj_E) (d w c : Nat) (hi : Nat → Nat → Int32) (hl : Nat → Nat → Int64) (v1 : Int32) (v2 : Int32) (v3 : Int32) (v4 : Int32) (v5 : Int32) : mj_den mj_P E d 181 20 [Value.ref 205, Value.int v1, Value.int v2, Value.int v3, Value.int v4, Value.int v5] [] (mj_hw w c hi hl) = if v2 ≤ (v1 + v5) then mj_den mj_P E d 181 61 [Value.ref 205, Value.int v1, Value.int v2, Value.int v3, Value.int v4, Value.int v5] [] (mj_hw w c hi hl) else if 0 ≤ ((v4 + (1 : Int32)) + v5) ∧ (((v4 + (1 : Int32)) + v5)).toNatClampNeg < 132 then if 0 ≤ (v1 + v5) ∧ ((v1 + v5)).toNatClampNeg < 400 then if ¬ (hi 215 ((((v4 + (1 : Int32)) + v5)).toNatClampNeg)) = (hi 214 (((v1 + v5)).toNatClampNeg)) then mj_den mj_P E d 181 61 [Value.ref 205, Value.int v1, Value.int v2, Value.int v3, Value.int v4, Value.int v5] [] (mj_hw w c hi hl) else mj_den mj_P E d 181 20 [Value.ref 205, Value.int v1, Value.int v2, Value.int v3, Value.int v4, Value.int (v5 + (1 : Int32))] [] (mj_hw w c hi hl) else none else none := by
  rw [mj_den_eq, f181_20]
  exact zt_iload_n rfl rfl (zt_iload rfl rfl (zt_iadd rfl (zt_iload_n rfl rfl (zt_icmp_ge rfl rfl (zt_aload_n rfl rfl (zt_getr (mjkd205 _ _ _ _) (mjhr205_19 w c) rfl (zt_iload rfl rfl (zt_iconst rfl (zt_iadd rfl (zt_iload rfl rfl (zt_iadd rfl (zt_iald (mjkd215 _ _ _ _) (mjln215 _ _ _ _) rfl rfl (zt_aload_n rfl rfl (zt_getr (mjkd205 _ _ _ _) (mjhr205_13 w c) rfl (zt_iload_n rfl rfl (zt_iload rfl rfl (zt_iadd rfl (zt_iald (mjkd214 _ _ _ _) (mjln214 _ _ _ _) rfl rfl (zt_icmp_ne rfl rfl (zt_iload rfl rfl (zt_iconst rfl (zt_iadd rfl (zt_istore (Nat.le_of_ble_eq_true rfl) rfl rfl (zt_goto rfl))))))))))))))))))))))))
set_option maxRecDepth 100000 in
theorem f181_61 : mj_find (mj_P 181).2.2.2.2 61 = [(.iload_n 1, 1, 0, []), (.iload 5, 2, 0, []), (.iadd, 1, 0, []), (.iload_n 2, 1, 0, []), (.if_icmp .ne 22, 3, 0, [88]), (.aload_n 0, 1, 0, []), (.getfield 37, 3, 0, [12, 19, 3, 1429]), (.iload 4, 2, 0, []), (.iconst 1, 1, 1, []), (.iadd, 1, 0, []), (.iload 5, 2, 0, []), (.iadd, 1, 0, []), (.iaload, 1, 0, []), (.bipush 32, 2, 32, []), (.if_icmp .ne 5, 3, 0, [88]), (.iload_n 3, 1, 0, []), (.ireturn, 1, 0, [0])] := rfl
set_option maxRecDepth 100000 in
theorem q181_61 (E : mj_E) (d w c : Nat) (hi : Nat → Nat → Int32) (hl : Nat → Nat → Int64) (v1 : Int32) (v2 : Int32) (v3 : Int32) (v4 : Int32) (v5 : Int32) : mj_den mj_P E d 181 61 [Value.ref 205, Value.int v1, Value.int v2, Value.int v3, Value.int v4, Value.int v5] [] (mj_hw w c hi hl) = if ¬ (v1 + v5) = v2 then mj_den mj_P E d 181 88 [Value.ref 205, Value.int v1, Value.int v2, Value.int v3, Value.int v4, Value.int v5] [] (mj_hw w c hi hl) else if 0 ≤ ((v4 + (1 : Int32)) + v5) ∧ (((v4 + (1 : Int32)) + v5)).toNatClampNeg < 132 then if ¬ (hi 215 ((((v4 + (1 : Int32)) + v5)).toNatClampNeg)) = (32 : Int32) then mj_den mj_P E d 181 88 [Value.ref 205, Value.int v1, Value.int v2, Value.int v3, Value.int v4, Value.int v5] [] (mj_hw w c hi hl) else some (some (Value.int v3), (mj_hw w c hi hl)) else none := by
  rw [mj_den_eq, f181_61]
  exact zt_iload_n rfl rfl (zt_iload rfl rfl (zt_iadd rfl (zt_iload_n rfl rfl (zt_icmp_ne rfl rfl (zt_aload_n rfl rfl (zt_getr (mjkd205 _ _ _ _) (mjhr205_19 w c) rfl (zt_iload rfl rfl (zt_iconst rfl (zt_iadd rfl (zt_iload rfl rfl (zt_iadd rfl (zt_iald (mjkd215 _ _ _ _) (mjln215 _ _ _ _) rfl rfl (zt_bipush rfl (zt_icmp_ne rfl rfl (zt_iload_n rfl rfl (zt_ireturn0))))))))))))))))
set_option maxRecDepth 100000 in
theorem f181_88 : mj_find (mj_P 181).2.2.2.2 88 = [(.iload 4, 2, 0, []), (.iconst 1, 1, 1, []), (.iadd, 1, 0, []), (.istore 4, 2, 0, [])] := rfl
set_option maxRecDepth 100000 in
theorem q181_88 (E : mj_E) (d w c : Nat) (hi : Nat → Nat → Int32) (hl : Nat → Nat → Int64) (v1 : Int32) (v2 : Int32) (v3 : Int32) (v4 : Int32) (v5 : Int32) : mj_den mj_P E d 181 88 [Value.ref 205, Value.int v1, Value.int v2, Value.int v3, Value.int v4, Value.int v5] [] (mj_hw w c hi hl) = mj_den mj_P E d 181 94 [Value.ref 205, Value.int v1, Value.int v2, Value.int v3, Value.int (v4 + (1 : Int32)), Value.int v5] [] (mj_hw w c hi hl) := by
  rw [mj_den_eq, f181_88]
  exact zt_iload rfl rfl (zt_iconst rfl (zt_iadd rfl (zt_istore (Nat.le_of_ble_eq_true rfl) rfl rfl (zt_end rfl))))
set_option maxRecDepth 100000 in
theorem f181_94 : mj_find (mj_P 181).2.2.2.2 94 = [(.aload_n 0, 1, 0, []), (.getfield 37, 3, 0, [12, 19, 3, 1429]), (.iload 4, 2, 0, []), (.iaload, 1, 0, []), (.bipush 32, 2, 32, []), (.if_icmp .eq 12, 3, 0, [115]), (.iload 4, 2, 0, []), (.iconst 1, 1, 1, []), (.iadd, 1, 0, []), (.istore 4, 2, 0, []), (.goto (-18), 3, 0, [94])] := rfl
set_option maxRecDepth 100000 in
theorem q181_94 (E : mj_E) (d w c : Nat) (hi : Nat → Nat → Int32) (hl : Nat → Nat → Int64) (v1 : Int32) (v2 : Int32) (v3 : Int32) (v4 : Int32) (v5 : Int32) : mj_den mj_P E d 181 94 [Value.ref 205, Value.int v1, Value.int v2, Value.int v3, Value.int v4, Value.int v5] [] (mj_hw w c hi hl) = if 0 ≤ v4 ∧ (v4).toNatClampNeg < 132 then if (hi 215 ((v4).toNatClampNeg)) = (32 : Int32) then mj_den mj_P E d 181 115 [Value.ref 205, Value.int v1, Value.int v2, Value.int v3, Value.int v4, Value.int v5] [] (mj_hw w c hi hl) else mj_den mj_P E d 181 94 [Value.ref 205, Value.int v1, Value.int v2, Value.int v3, Value.int (v4 + (1 : Int32)), Value.int v5] [] (mj_hw w c hi hl) else none := by
  rw [mj_den_eq, f181_94]
  exact zt_aload_n rfl rfl (zt_getr (mjkd205 _ _ _ _) (mjhr205_19 w c) rfl (zt_iload rfl rfl (zt_iald (mjkd215 _ _ _ _) (mjln215 _ _ _ _) rfl rfl (zt_bipush rfl (zt_icmp_eq rfl rfl (zt_iload rfl rfl (zt_iconst rfl (zt_iadd rfl (zt_istore (Nat.le_of_ble_eq_true rfl) rfl rfl (zt_goto rfl))))))))))
set_option maxRecDepth 100000 in
theorem f181_115 : mj_find (mj_P 181).2.2.2.2 115 = [(.goto (-110), 3, 0, [5])] := rfl
set_option maxRecDepth 100000 in
theorem q181_115 (E : mj_E) (d w c : Nat) (hi : Nat → Nat → Int32) (hl : Nat → Nat → Int64) (v1 : Int32) (v2 : Int32) (v3 : Int32) (v4 : Int32) (v5 : Int32) : mj_den mj_P E d 181 115 [Value.ref 205, Value.int v1, Value.int v2, Value.int v3, Value.int v4, Value.int v5] [] (mj_hw w c hi hl) = mj_den mj_P E d 181 5 [Value.ref 205, Value.int v1, Value.int v2, Value.int v3, Value.int v4, Value.int v5] [] (mj_hw w c hi hl) := by
  rw [mj_den_eq, f181_115]
  exact zt_goto rfl
set_option maxRecDepth 100000 in
theorem f181_118 : mj_find (mj_P 181).2.2.2.2 118 = [(.iconst (-1), 1, (-1), []), (.ireturn, 1, 0, [0])] := rfl
set_option maxRecDepth 100000 in
theorem q181_118 (E : mj_E) (d w c : Nat) (hi : Nat → Nat → Int32) (hl : Nat → Nat → Int64) (v1 : Int32) (v2 : Int32) (v3 : Int32) (v4 : Int32) (v5 : Int32) : mj_den mj_P E d 181 118 [Value.ref 205, Value.int v1, Value.int v2, Value.int v3, Value.int v4, Value.int v5] [] (mj_hw w c hi hl) = some (some (Value.int (-1 : Int32)), (mj_hw w c hi hl)) := by
  rw [mj_den_eq, f181_118]
  exact zt_iconst rfl (zt_ireturn0)
set_option maxRecDepth 100000 in
theorem q181_118_1 (E : mj_E) (d w c : Nat) (hi : Nat → Nat → Int32) (hl : Nat → Nat → Int64) (v1 : Int32) (v2 : Int32) (v3 : Int32) (v4 : Int32) : mj_den mj_P E d 181 118 [Value.ref 205, Value.int v1, Value.int v2, Value.int v3, Value.int v4, Value.float 0] [] (mj_hw w c hi hl) = some (some (Value.int (-1 : Int32)), (mj_hw w c hi hl)) := by
  rw [mj_den_eq, f181_118]
  exact zt_iconst rfl (zt_ireturn0)
set_option maxRecDepth 100000 in
theorem f182_0 : mj_find (mj_P 182).2.2.2.2 0 = [(.aload_n 0, 1, 0, []), (.aload_n 0, 1, 0, []), (.getfield 165, 3, 0, [12, 15, 0, 1425]), (.invokevirtual 168, 3, 0, [0, 177, 12, 1, 1, 1672, 1674, 49, 156, 1675])] := rfl
set_option maxRecDepth 100000 in
theorem q182_0 (E : mj_E) (d w c : Nat) (hi : Nat → Nat → Int32) (hl : Nat → Nat → Int64) : mj_den mj_P E d 182 0 [Value.ref 205, Value.float 0] [] (mj_hw w c hi hl) = mj_bi (mj_dc mj_P E d 177 [Value.ref 205, Value.int (hi 205 15)] (mj_hw w c hi hl)) (fun x1 h1 => mj_den mj_P E d 182 8 [Value.ref 205, Value.float 0] [Value.int x1] h1) := by
  rw [mj_den_eq, f182_0]
  exact zt_aload_n rfl rfl (zt_aload_n rfl rfl (zt_geti (mjkd205 _ _ _ _) rfl rfl (zt_call0_1 rfl (mjkd205 _ _ _ _) (Nat.le_of_ble_eq_true rfl) rfl rfl)))
set_option maxRecDepth 100000 in
theorem f182_8 : mj_find (mj_P 182).2.2.2.2 8 = [(.bipush 32, 2, 32, []), (.if_icmp .eq 16, 3, 0, [26]), (.aload_n 0, 1, 0, []), (.aload_n 0, 1, 0, []), (.getfield 165, 3, 0, [12, 15, 0, 1425]), (.invokevirtual 168, 3, 0, [0, 177, 12, 1, 1, 1672, 1674, 49, 156, 1675])] := rfl
set_option maxRecDepth 100000 in
theorem q182_8 (E : mj_E) (d w c : Nat) (hi : Nat → Nat → Int32) (hl : Nat → Nat → Int64) (s0 : Int32) : mj_den mj_P E d 182 8 [Value.ref 205, Value.float 0] [Value.int s0] (mj_hw w c hi hl) = if s0 = (32 : Int32) then mj_den mj_P E d 182 26 [Value.ref 205, Value.float 0] [] (mj_hw w c hi hl) else mj_bi (mj_dc mj_P E d 177 [Value.ref 205, Value.int (hi 205 15)] (mj_hw w c hi hl)) (fun x1 h1 => mj_den mj_P E d 182 21 [Value.ref 205, Value.float 0] [Value.int x1] h1) := by
  rw [mj_den_eq, f182_8]
  exact zt_bipush rfl (zt_icmp_eq rfl rfl (zt_aload_n rfl rfl (zt_aload_n rfl rfl (zt_geti (mjkd205 _ _ _ _) rfl rfl (zt_call0_1 rfl (mjkd205 _ _ _ _) (Nat.le_of_ble_eq_true rfl) rfl rfl)))))
set_option maxRecDepth 100000 in
theorem f182_21 : mj_find (mj_P 182).2.2.2.2 21 = [(.bipush 10, 2, 10, []), (.if_icmp .ne 16, 3, 0, [39])] := rfl
set_option maxRecDepth 100000 in
theorem q182_21 (E : mj_E) (d w c : Nat) (hi : Nat → Nat → Int32) (hl : Nat → Nat → Int64) (s0 : Int32) : mj_den mj_P E d 182 21 [Value.ref 205, Value.float 0] [Value.int s0] (mj_hw w c hi hl) = if ¬ s0 = (10 : Int32) then mj_den mj_P E d 182 39 [Value.ref 205, Value.float 0] [] (mj_hw w c hi hl) else mj_den mj_P E d 182 26 [Value.ref 205, Value.float 0] [] (mj_hw w c hi hl) := by
  rw [mj_den_eq, f182_21]
  exact zt_bipush rfl (zt_icmp_ne rfl rfl (zt_end rfl))
set_option maxRecDepth 100000 in
theorem f182_26 : mj_find (mj_P 182).2.2.2.2 26 = [(.aload_n 0, 1, 0, []), (.aload_n 0, 1, 0, []), (.getfield 165, 3, 0, [12, 15, 0, 1425]), (.iconst 1, 1, 1, []), (.iadd, 1, 0, []), (.putfield 165, 3, 0, [12, 15, 0, 1425]), (.goto (-36), 3, 0, [0])] := rfl
set_option maxRecDepth 100000 in
theorem q182_26 (E : mj_E) (d w c : Nat) (hi : Nat → Nat → Int32) (hl : Nat → Nat → Int64) : mj_den mj_P E d 182 26 [Value.ref 205, Value.float 0] [] (mj_hw w c hi hl) = mj_den mj_P E d 182 0 [Value.ref 205, Value.float 0] [] (mj_hw w c (mj_u hi 205 15 ((hi 205 15) + (1 : Int32))) hl) := by
  rw [mj_den_eq, f182_26]
  exact zt_aload_n rfl rfl (zt_aload_n rfl rfl (zt_geti (mjkd205 _ _ _ _) rfl rfl (zt_iconst rfl (zt_iadd rfl (zt_puti (mjkd205 _ _ _ _) rfl rfl (zt_goto rfl))))))
set_option maxRecDepth 100000 in
theorem f182_39 : mj_find (mj_P 182).2.2.2.2 39 = [(.aload_n 0, 1, 0, []), (.aload_n 0, 1, 0, []), (.getfield 165, 3, 0, [12, 15, 0, 1425]), (.putfield 171, 3, 0, [12, 16, 0, 1426]), (.aload_n 0, 1, 0, []), (.iconst 1, 1, 1, []), (.putfield 174, 3, 0, [12, 17, 0, 1427]), (.aload_n 0, 1, 0, []), (.aload_n 0, 1, 0, []), (.getfield 165, 3, 0, [12, 15, 0, 1425]), (.invokevirtual 168, 3, 0, [0, 177, 12, 1, 1, 1672, 1674, 49, 156, 1675])] := rfl
set_option maxRecDepth 100000 in
theorem q182_39 (E : mj_E) (d w c : Nat) (hi : Nat → Nat → Int32) (hl : Nat → Nat → Int64) : mj_den mj_P E d 182 39 [Value.ref 205, Value.float 0] [] (mj_hw w c hi hl) = mj_bi (mj_dc mj_P E d 177 [Value.ref 205, Value.int (hi 205 15)] (mj_hw w c (mj_u (mj_u hi 205 16 (hi 205 15)) 205 17 (1 : Int32)) hl)) (fun x1 h1 => mj_den mj_P E d 182 60 [Value.ref 205, Value.float 0] [Value.int x1] h1) := by
  rw [mj_den_eq, f182_39]
  exact zt_aload_n rfl rfl (zt_aload_n rfl rfl (zt_geti (mjkd205 _ _ _ _) rfl rfl (zt_puti (mjkd205 _ _ _ _) rfl rfl (zt_aload_n rfl rfl (zt_iconst rfl (zt_puti (mjkd205 _ _ _ _) rfl rfl (zt_aload_n rfl rfl (zt_aload_n rfl rfl (zt_geti (mjkd205 _ _ _ _) rfl rfl (zt_call0_1 rfl (mjkd205 _ _ _ _) (Nat.le_of_ble_eq_true rfl) rfl rfl))))))))))
set_option maxRecDepth 100000 in
theorem f182_60 : mj_find (mj_P 182).2.2.2.2 60 = [(.istore_n 1, 1, 0, []), (.iload_n 1, 1, 0, []), (.iconst (-1), 1, (-1), []), (.if_icmp .ne 9, 3, 0, [72]), (.aload_n 0, 1, 0, []), (.iconst 0, 1, 0, []), (.putfield 174, 3, 0, [12, 17, 0, 1427]), (.return_, 1, 0, [])] := rfl
set_option maxRecDepth 100000 in
theorem q182_60 (E : mj_E) (d w c : Nat) (hi : Nat → Nat → Int32) (hl : Nat → Nat → Int64) (s0 : Int32) : mj_den mj_P E d 182 60 [Value.ref 205, Value.float 0] [Value.int s0] (mj_hw w c hi hl) = if ¬ s0 = (-1 : Int32) then mj_den mj_P E d 182 72 [Value.ref 205, Value.int s0] [] (mj_hw w c hi hl) else some (none, (mj_hw w c (mj_u hi 205 17 (0 : Int32)) hl)) := by
  rw [mj_den_eq, f182_60]
  exact zt_istore_n (Nat.le_of_ble_eq_true rfl) rfl rfl (zt_iload_n rfl rfl (zt_iconst rfl (zt_icmp_ne rfl rfl (zt_aload_n rfl rfl (zt_iconst rfl (zt_puti (mjkd205 _ _ _ _) rfl rfl (zt_return)))))))
set_option maxRecDepth 100000 in
theorem f182_72 : mj_find (mj_P 182).2.2.2.2 72 = [(.aload_n 0, 1, 0, []), (.aload_n 0, 1, 0, []), (.getfield 165, 3, 0, [12, 15, 0, 1425]), (.iconst 1, 1, 1, []), (.iadd, 1, 0, []), (.putfield 165, 3, 0, [12, 15, 0, 1425]), (.aload_n 0, 1, 0, []), (.iload_n 1, 1, 0, []), (.putfield 177, 3, 0, [12, 18, 0, 1428]), (.aload_n 0, 1, 0, []), (.iload_n 1, 1, 0, []), (.invokevirtual 180, 3, 0, [0, 178, 12, 1, 1, 1676, 1678, 50, 156, 1679])] := rfl
set_option maxRecDepth 100000 in
theorem q182_72 (E : mj_E) (d w c : Nat) (hi : Nat → Nat → Int32) (hl : Nat → Nat → Int64) (v1 : Int32) : mj_den mj_P E d 182 72 [Value.ref 205, Value.int v1] [] (mj_hw w c hi hl) = mj_bi (mj_dc mj_P E d 178 [Value.ref 205, Value.int v1] (mj_hw w c (mj_u (mj_u hi 205 15 ((hi 205 15) + (1 : Int32))) 205 18 v1) hl)) (fun x1 h1 => mj_den mj_P E d 182 92 [Value.ref 205, Value.int v1] [Value.int x1] h1) := by
  rw [mj_den_eq, f182_72]
  exact zt_aload_n rfl rfl (zt_aload_n rfl rfl (zt_geti (mjkd205 _ _ _ _) rfl rfl (zt_iconst rfl (zt_iadd rfl (zt_puti (mjkd205 _ _ _ _) rfl rfl (zt_aload_n rfl rfl (zt_iload_n rfl rfl (zt_puti (mjkd205 _ _ _ _) rfl rfl (zt_aload_n rfl rfl (zt_iload_n rfl rfl (zt_call0_1 rfl (mjkd205 _ _ _ _) (Nat.le_of_ble_eq_true rfl) rfl rfl)))))))))))
set_option maxRecDepth 100000 in
theorem f182_92 : mj_find (mj_P 182).2.2.2.2 92 = [(.ifCond .eq 63, 3, 0, [155])] := rfl
set_option maxRecDepth 100000 in
theorem q182_92 (E : mj_E) (d w c : Nat) (hi : Nat → Nat → Int32) (hl : Nat → Nat → Int64) (v1 : Int32) (s0 : Int32) : mj_den mj_P E d 182 92 [Value.ref 205, Value.int v1] [Value.int s0] (mj_hw w c hi hl) = if s0 = 0 then mj_den mj_P E d 182 155 [Value.ref 205, Value.int v1] [] (mj_hw w c hi hl) else mj_den mj_P E d 182 95 [Value.ref 205, Value.int v1] [] (mj_hw w c hi hl) := by
  rw [mj_den_eq, f182_92]
  exact zt_if_eq rfl rfl (zt_end rfl)
set_option maxRecDepth 100000 in
theorem f182_95 : mj_find (mj_P 182).2.2.2.2 95 = [(.aload_n 0, 1, 0, []), (.aload_n 0, 1, 0, []), (.aload_n 0, 1, 0, []), (.getfield 165, 3, 0, [12, 15, 0, 1425]), (.invokevirtual 168, 3, 0, [0, 177, 12, 1, 1, 1672, 1674, 49, 156, 1675])] := rfl
set_option maxRecDepth 100000 in
theorem q182_95 (E : mj_E) (d w c : Nat) (hi : Nat → Nat → Int32) (hl : Nat → Nat → Int64) (v1 : Int32) : mj_den mj_P E d 182 95 [Value.ref 205, Value.int v1] [] (mj_hw w c hi hl) = mj_bi (mj_dc mj_P E d 177 [Value.ref 205, Value.int (hi 205 15)] (mj_hw w c hi hl)) (fun x1 h1 => mj_den mj_P E d 182 104 [Value.ref 205, Value.int v1] [Value.int x1, Value.ref 205] h1) := by
  rw [mj_den_eq, f182_95]
  exact zt_aload_n rfl rfl (zt_aload_n rfl rfl (zt_aload_n rfl rfl (zt_geti (mjkd205 _ _ _ _) rfl rfl (zt_call0_1 rfl (mjkd205 _ _ _ _) (Nat.le_of_ble_eq_true rfl) rfl rfl))))
set_option maxRecDepth 100000 in
theorem f182_104 : mj_find (mj_P 182).2.2.2.2 104 = [(.invokevirtual 180, 3, 0, [0, 178, 12, 1, 1, 1676, 1678, 50, 156, 1679])] := rfl
set_option maxRecDepth 100000 in
theorem q182_104 (E : mj_E) (d w c : Nat) (hi : Nat → Nat → Int32) (hl : Nat → Nat → Int64) (v1 : Int32) (s0 : Int32) : mj_den mj_P E d 182 104 [Value.ref 205, Value.int v1] [Value.int s0, Value.ref 205] (mj_hw w c hi hl) = mj_bi (mj_dc mj_P E d 178 [Value.ref 205, Value.int s0] (mj_hw w c hi hl)) (fun x1 h1 => mj_den mj_P E d 182 107 [Value.ref 205, Value.int v1] [Value.int x1] h1) := by
  rw [mj_den_eq, f182_104]
  exact zt_call0_1 rfl (mjkd205 _ _ _ _) (Nat.le_of_ble_eq_true rfl) rfl rfl
set_option maxRecDepth 100000 in
theorem f182_107 : mj_find (mj_P 182).2.2.2.2 107 = [(.ifCond .eq 16, 3, 0, [123]), (.aload_n 0, 1, 0, []), (.aload_n 0, 1, 0, []), (.getfield 165, 3, 0, [12, 15, 0, 1425]), (.iconst 1, 1, 1, []), (.iadd, 1, 0, []), (.putfield 165, 3, 0, [12, 15, 0, 1425]), (.goto (-25), 3, 0, [95])] := rfl
set_option maxRecDepth 100000 in
theorem q182_107 (E : mj_E) (d w c : Nat) (hi : Nat → Nat → Int32) (hl : Nat → Nat → Int64) (v1 : Int32) (s0 : Int32) : mj_den mj_P E d 182 107 [Value.ref 205, Value.int v1] [Value.int s0] (mj_hw w c hi hl) = if s0 = 0 then mj_den mj_P E d 182 123 [Value.ref 205, Value.int v1] [] (mj_hw w c hi hl) else mj_den mj_P E d 182 95 [Value.ref 205, Value.int v1] [] (mj_hw w c (mj_u hi 205 15 ((hi 205 15) + (1 : Int32))) hl) := by
  rw [mj_den_eq, f182_107]
  exact zt_if_eq rfl rfl (zt_aload_n rfl rfl (zt_aload_n rfl rfl (zt_geti (mjkd205 _ _ _ _) rfl rfl (zt_iconst rfl (zt_iadd rfl (zt_puti (mjkd205 _ _ _ _) rfl rfl (zt_goto rfl)))))))
set_option maxRecDepth 100000 in
theorem f182_123 : mj_find (mj_P 182).2.2.2.2 123 = [(.aload_n 0, 1, 0, []), (.aload_n 0, 1, 0, []), (.aload_n 0, 1, 0, []), (.getfield 171, 3, 0, [12, 16, 0, 1426]), (.aload_n 0, 1, 0, []), (.getfield 165, 3, 0, [12, 15, 0, 1425]), (.invokevirtual 183, 3, 0, [0, 181, 12, 2, 1, 1680, 1682, 51, 156, 1683])] := rfl
set_option maxRecDepth 100000 in
theorem q182_123 (E : mj_E) (d w c : Nat) (hi : Nat → Nat → Int32) (hl : Nat → Nat → Int64) (v1 : Int32) : mj_den mj_P E d 182 123 [Value.ref 205, Value.int v1] [] (mj_hw w c hi hl) = mj_bi (mj_dc mj_P E d 181 [Value.ref 205, Value.int (hi 205 16), Value.int (hi 205 15)] (mj_hw w c hi hl)) (fun x1 h1 => mj_den mj_P E d 182 136 [Value.ref 205, Value.int v1] [Value.int x1, Value.ref 205] h1) := by
  rw [mj_den_eq, f182_123]
  exact zt_aload_n rfl rfl (zt_aload_n rfl rfl (zt_aload_n rfl rfl (zt_geti (mjkd205 _ _ _ _) rfl rfl (zt_aload_n rfl rfl (zt_geti (mjkd205 _ _ _ _) rfl rfl (zt_call0_1 rfl (mjkd205 _ _ _ _) (Nat.le_of_ble_eq_true rfl) rfl rfl))))))
set_option maxRecDepth 100000 in
theorem f182_136 : mj_find (mj_P 182).2.2.2.2 136 = [(.putfield 177, 3, 0, [12, 18, 0, 1428]), (.aload_n 0, 1, 0, []), (.getfield 177, 3, 0, [12, 18, 0, 1428]), (.iconst (-1), 1, (-1), []), (.if_icmp .eq 129, 3, 0, [273]), (.aload_n 0, 1, 0, []), (.iconst 2, 1, 2, []), (.putfield 174, 3, 0, [12, 17, 0, 1427]), (.goto 121, 3, 0, [273])] := rfl
set_option maxRecDepth 100000 in
theorem q182_136 (E : mj_E) (d w c : Nat) (hi : Nat → Nat → Int32) (hl : Nat → Nat → Int64) (v1 : Int32) (s0 : Int32) : mj_den mj_P E d 182 136 [Value.ref 205, Value.int v1] [Value.int s0, Value.ref 205] (mj_hw w c hi hl) = if s0 = (-1 : Int32) then mj_den mj_P E d 182 273 [Value.ref 205, Value.int v1] [] (mj_hw w c (mj_u hi 205 18 s0) hl) else mj_den mj_P E d 182 273 [Value.ref 205, Value.int v1] [] (mj_hw w c (mj_u (mj_u hi 205 18 s0) 205 17 (2 : Int32)) hl) := by
  rw [mj_den_eq, f182_136]
  exact zt_puti (mjkd205 _ _ _ _) rfl rfl (zt_aload_n rfl rfl (zt_geti (mjkd205 _ _ _ _) rfl rfl (zt_iconst rfl (zt_icmp_eq rfl rfl (zt_aload_n rfl rfl (zt_iconst rfl (zt_puti (mjkd205 _ _ _ _) rfl rfl (zt_goto rfl))))))))
set_option maxRecDepth 100000 in
theorem f182_155 : mj_find (mj_P 182).2.2.2.2 155 = [(.aload_n 0, 1, 0, []), (.iload_n 1, 1, 0, []), (.invokevirtual 187, 3, 0, [0, 179, 12, 1, 1, 1684, 1686, 52, 156, 1687])] := rfl
set_option maxRecDepth 100000 in
theorem q182_155 (E : mj_E) (d w c : Nat) (hi : Nat → Nat → Int32) (hl : Nat → Nat → Int64) (v1 : Int32) : mj_den mj_P E d 182 155 [Value.ref 205, Value.int v1] [] (mj_hw w c hi hl) = mj_bi (mj_dc mj_P E d 179 [Value.ref 205, Value.int v1] (mj_hw w c hi hl)) (fun x1 h1 => mj_den mj_P E d 182 160 [Value.ref 205, Value.int v1] [Value.int x1] h1) := by
  rw [mj_den_eq, f182_155]
  exact zt_aload_n rfl rfl (zt_iload_n rfl rfl (zt_call0_1 rfl (mjkd205 _ _ _ _) (Nat.le_of_ble_eq_true rfl) rfl rfl))
set_option maxRecDepth 100000 in
theorem f182_160 : mj_find (mj_P 182).2.2.2.2 160 = [(.ifCond .eq 100, 3, 0, [260]), (.aload_n 0, 1, 0, []), (.iload_n 1, 1, 0, []), (.bipush 48, 2, 48, []), (.isub, 1, 0, []), (.putfield 177, 3, 0, [12, 18, 0, 1428])] := rfl
set_option maxRecDepth 100000 in
theorem q182_160 (E : mj_E) (d w c : Nat) (hi : Nat → Nat → Int32) (hl : Nat → Nat → Int64) (v1 : Int32) (s0 : Int32) : mj_den mj_P E d 182 160 [Value.ref 205, Value.int v1] [Value.int s0] (mj_hw w c hi hl) = if s0 = 0 then mj_den mj_P E d 182 260 [Value.ref 205, Value.int v1] [] (mj_hw w c hi hl) else mj_den mj_P E d 182 171 [Value.ref 205, Value.int v1] [] (mj_hw w c (mj_u hi 205 18 (v1 - (48 : Int32))) hl) := by
  rw [mj_den_eq, f182_160]
  exact zt_if_eq rfl rfl (zt_aload_n rfl rfl (zt_iload_n rfl rfl (zt_bipush rfl (zt_isub rfl (zt_puti (mjkd205 _ _ _ _) rfl rfl (zt_end rfl))))))
set_option maxRecDepth 100000 in
theorem f182_171 : mj_find (mj_P 182).2.2.2.2 171 = [(.aload_n 0, 1, 0, []), (.aload_n 0, 1, 0, []), (.aload_n 0, 1, 0, []), (.getfield 165, 3, 0, [12, 15, 0, 1425]), (.invokevirtual 168, 3, 0, [0, 177, 12, 1, 1, 1672, 1674, 49, 156, 1675])] := rfl
set_option maxRecDepth 100000 in
theorem q182_171 (E : mj_E) (d w c : Nat) (hi : Nat → Nat → Int32) (hl : Nat → Nat → Int64) (v1 : Int32) : mj_den mj_P E d 182 171 [Value.ref 205, Value.int v1] [] (mj_hw w c hi hl) = mj_bi (mj_dc mj_P E d 177 [Value.ref 205, Value.int (hi 205 15)] (mj_hw w c hi hl)) (fun x1 h1 => mj_den mj_P E d 182 180 [Value.ref 205, Value.int v1] [Value.int x1, Value.ref 205] h1) := by
  rw [mj_den_eq, f182_171]
  exact zt_aload_n rfl rfl (zt_aload_n rfl rfl (zt_aload_n rfl rfl (zt_geti (mjkd205 _ _ _ _) rfl rfl (zt_call0_1 rfl (mjkd205 _ _ _ _) (Nat.le_of_ble_eq_true rfl) rfl rfl))))
set_option maxRecDepth 100000 in
theorem f182_180 : mj_find (mj_P 182).2.2.2.2 180 = [(.invokevirtual 187, 3, 0, [0, 179, 12, 1, 1, 1684, 1686, 52, 156, 1687])] := rfl
set_option maxRecDepth 100000 in
theorem q182_180 (E : mj_E) (d w c : Nat) (hi : Nat → Nat → Int32) (hl : Nat → Nat → Int64) (v1 : Int32) (s0 : Int32) : mj_den mj_P E d 182 180 [Value.ref 205, Value.int v1] [Value.int s0, Value.ref 205] (mj_hw w c hi hl) = mj_bi (mj_dc mj_P E d 179 [Value.ref 205, Value.int s0] (mj_hw w c hi hl)) (fun x1 h1 => mj_den mj_P E d 182 183 [Value.ref 205, Value.int v1] [Value.int x1] h1) := by
  rw [mj_den_eq, f182_180]
  exact zt_call0_1 rfl (mjkd205 _ _ _ _) (Nat.le_of_ble_eq_true rfl) rfl rfl
set_option maxRecDepth 100000 in
theorem f182_183 : mj_find (mj_P 182).2.2.2.2 183 = [(.ifCond .eq 56, 3, 0, [239]), (.aload_n 0, 1, 0, []), (.aload_n 0, 1, 0, []), (.getfield 177, 3, 0, [12, 18, 0, 1428]), (.sipush 10000, 3, 10000, []), (.if_icmp .ge 25, 3, 0, [219]), (.bipush 10, 2, 10, []), (.aload_n 0, 1, 0, []), (.getfield 177, 3, 0, [12, 18, 0, 1428]), (.imul, 1, 0, []), (.aload_n 0, 1, 0, []), (.aload_n 0, 1, 0, []), (.getfield 165, 3, 0, [12, 15, 0, 1425]), (.invokevirtual 168, 3, 0, [0, 177, 12, 1, 1, 1672, 1674, 49, 156, 1675])] := rfl
set_option maxRecDepth 100000 in
theorem q182_183 (E : mj_E) (d w c : Nat) (hi : Nat → Nat → Int32) (hl : Nat → Nat → Int64) (v1 : Int32) (s0 : Int32) : mj_den mj_P E d 182 183 [Value.ref 205, Value.int v1] [Value.int s0] (mj_hw w c hi hl) = if s0 = 0 then mj_den mj_P E d 182 239 [Value.ref 205, Value.int v1] [] (mj_hw w c hi hl) else if (10000 : Int32) ≤ (hi 205 18) then mj_den mj_P E d 182 219 [Value.ref 205, Value.int v1] [Value.ref 205] (mj_hw w c hi hl) else mj_bi (mj_dc mj_P E d 177 [Value.ref 205, Value.int (hi 205 15)] (mj_hw w c hi hl)) (fun x1 h1 => mj_den mj_P E d 182 212 [Value.ref 205, Value.int v1] [Value.int x1, Value.int ((10 : Int32) * (hi 205 18)), Value.ref 205] h1) := by
  rw [mj_den_eq, f182_183]
  exact zt_if_eq rfl rfl (zt_aload_n rfl rfl (zt_aload_n rfl rfl (zt_geti (mjkd205 _ _ _ _) rfl rfl (zt_sipush rfl (zt_icmp_ge rfl rfl (zt_bipush rfl (zt_aload_n rfl rfl (zt_geti (mjkd205 _ _ _ _) rfl rfl (zt_imul rfl (zt_aload_n rfl rfl (zt_aload_n rfl rfl (zt_geti (mjkd205 _ _ _ _) rfl rfl (zt_call0_1 rfl (mjkd205 _ _ _ _) (Nat.le_of_ble_eq_true rfl) rfl rfl)))))))))))))
set_option maxRecDepth 100000 in
theorem f182_212 : mj_find (mj_P 182).2.2.2.2 212 = [(.iadd, 1, 0, []), (.bipush 48, 2, 48, []), (.isub, 1, 0, []), (.goto 7, 3, 0, [223])] := rfl
set_option maxRecDepth 100000 in
theorem q182_212 (E : mj_E) (d w c : Nat) (hi : Nat → Nat → Int32) (hl : Nat → Nat → Int64) (v1 : Int32) (s0 : Int32) (s1 : Int32) : mj_den mj_P E d 182 212 [Value.ref 205, Value.int v1] [Value.int s0, Value.int s1, Value.ref 205] (mj_hw w c hi hl) = mj_den mj_P E d 182 223 [Value.ref 205, Value.int v1] [Value.int ((s1 + s0) - (48 : Int32)), Value.ref 205] (mj_hw w c hi hl) := by
  rw [mj_den_eq, f182_212]
  exact zt_iadd rfl (zt_bipush rfl (zt_isub rfl (zt_goto rfl)))
set_option maxRecDepth 100000 in
theorem f182_219 : mj_find (mj_P 182).2.2.2.2 219 = [(.aload_n 0, 1, 0, []), (.getfield 177, 3, 0, [12, 18, 0, 1428])] := rfl
set_option maxRecDepth 100000 in
theorem q182_219 (E : mj_E) (d w c : Nat) (hi : Nat → Nat → Int32) (hl : Nat → Nat → Int64) (v1 : Int32) : mj_den mj_P E d 182 219 [Value.ref 205, Value.int v1] [Value.ref 205] (mj_hw w c hi hl) = mj_den mj_P E d 182 223 [Value.ref 205, Value.int v1] [Value.int (hi 205 18), Value.ref 205] (mj_hw w c hi hl) := by
  rw [mj_den_eq, f182_219]
  exact zt_aload_n rfl rfl (zt_geti (mjkd205 _ _ _ _) rfl rfl (zt_end rfl))
set_option maxRecDepth 100000 in
theorem f182_223 : mj_find (mj_P 182).2.2.2.2 223 = [(.putfield 177, 3, 0, [12, 18, 0, 1428]), (.aload_n 0, 1, 0, []), (.aload_n 0, 1, 0, []), (.getfield 165, 3, 0, [12, 15, 0, 1425]), (.iconst 1, 1, 1, []), (.iadd, 1, 0, []), (.putfield 165, 3, 0, [12, 15, 0, 1425]), (.goto (-65), 3, 0, [171])] := rfl
set_option maxRecDepth 100000 in
theorem q182_223 (E : mj_E) (d w c : Nat) (hi : Nat → Nat → Int32) (hl : Nat → Nat → Int64) (v1 : Int32) (s0 : Int32) : mj_den mj_P E d 182 223 [Value.ref 205, Value.int v1] [Value.int s0, Value.ref 205] (mj_hw w c hi hl) = mj_den mj_P E d 182 171 [Value.ref 205, Value.int v1] [] (mj_hw w c (mj_u (mj_u hi 205 18 s0) 205 15 ((hi 205 15) + (1 : Int32))) hl) := by
  rw [mj_den_eq, f182_223]
  exact zt_puti (mjkd205 _ _ _ _) rfl rfl (zt_aload_n rfl rfl (zt_aload_n rfl rfl (zt_geti (mjkd205 _ _ _ _) rfl rfl (zt_iconst rfl (zt_iadd rfl (zt_puti (mjkd205 _ _ _ _) rfl rfl (zt_goto rfl)))))))
set_option maxRecDepth 100000 in
theorem f182_239 : mj_find (mj_P 182).2.2.2.2 239 = [(.aload_n 0, 1, 0, []), (.getfield 165, 3, 0, [12, 15, 0, 1425]), (.aload_n 0, 1, 0, []), (.getfield 171, 3, 0, [12, 16, 0, 1426]), (.isub, 1, 0, []), (.iconst 5, 1, 5, []), (.if_icmp .ge 24, 3, 0, [273]), (.aload_n 0, 1, 0, []), (.iconst 3, 1, 3, []), (.putfield 174, 3, 0, [12, 17, 0, 1427]), (.goto 16, 3, 0, [273])] := rfl
set_option maxRecDepth 100000 in
theorem q182_239 (E : mj_E) (d w c : Nat) (hi : Nat → Nat → Int32) (hl : Nat → Nat → Int64) (v1 : Int32) : mj_den mj_P E d 182 239 [Value.ref 205, Value.int v1] [] (mj_hw w c hi hl) = if (5 : Int32) ≤ ((hi 205 15) - (hi 205 16)) then mj_den mj_P E d 182 273 [Value.ref 205, Value.int v1] [] (mj_hw w c hi hl) else mj_den mj_P E d 182 273 [Value.ref 205, Value.int v1] [] (mj_hw w c (mj_u hi 205 17 (3 : Int32)) hl) := by
  rw [mj_den_eq, f182_239]
  exact zt_aload_n rfl rfl (zt_geti (mjkd205 _ _ _ _) rfl rfl (zt_aload_n rfl rfl (zt_geti (mjkd205 _ _ _ _) rfl rfl (zt_isub rfl (zt_iconst rfl (zt_icmp_ge rfl rfl (zt_aload_n rfl rfl (zt_iconst rfl (zt_puti (mjkd205 _ _ _ _) rfl rfl (zt_goto rfl))))))))))
set_option maxRecDepth 100000 in
theorem f182_260 : mj_find (mj_P 182).2.2.2.2 260 = [(.aload_n 0, 1, 0, []), (.iload_n 1, 1, 0, []), (.invokevirtual 190, 3, 0, [0, 180, 12, 1, 1, 1688, 1690, 53, 156, 1691])] := rfl
set_option maxRecDepth 100000 in
theorem q182_260 (E : mj_E) (d w c : Nat) (hi : Nat → Nat → Int32) (hl : Nat → Nat → Int64) (v1 : Int32) : mj_den mj_P E d 182 260 [Value.ref 205, Value.int v1] [] (mj_hw w c hi hl) = mj_bi (mj_dc mj_P E d 180 [Value.ref 205, Value.int v1] (mj_hw w c hi hl)) (fun x1 h1 => mj_den mj_P E d 182 265 [Value.ref 205, Value.int v1] [Value.int x1] h1) := by
  rw [mj_den_eq, f182_260]
  exact zt_aload_n rfl rfl (zt_iload_n rfl rfl (zt_call0_1 rfl (mjkd205 _ _ _ _) (Nat.le_of_ble_eq_true rfl) rfl rfl))
set_option maxRecDepth 100000 in
theorem f182_265 : mj_find (mj_P 182).2.2.2.2 265 = [(.ifCond .eq 8, 3, 0, [273]), (.aload_n 0, 1, 0, []), (.iconst 4, 1, 4, []), (.putfield 174, 3, 0, [12, 17, 0, 1427])] := rfl
set_option maxRecDepth 100000 in
theorem q182_265 (E : mj_E) (d w c : Nat) (hi : Nat → Nat → Int32) (hl : Nat → Nat → Int64) (v1 : Int32) (s0 : Int32) : mj_den mj_P E d 182 265 [Value.ref 205, Value.int v1] [Value.int s0] (mj_hw w c hi hl) = if s0 = 0 then mj_den mj_P E d 182 273 [Value.ref 205, Value.int v1] [] (mj_hw w c hi hl) else mj_den mj_P E d 182 273 [Value.ref 205, Value.int v1] [] (mj_hw w c (mj_u hi 205 17 (4 : Int32)) hl) := by
  rw [mj_den_eq, f182_265]
  exact zt_if_eq rfl rfl (zt_aload_n rfl rfl (zt_iconst rfl (zt_puti (mjkd205 _ _ _ _) rfl rfl (zt_end rfl))))
set_option maxRecDepth 100000 in
theorem f182_273 : mj_find (mj_P 182).2.2.2.2 273 = [(.return_, 1, 0, [])] := rfl
set_option maxRecDepth 100000 in
theorem q182_273 (E : mj_E) (d w c : Nat) (hi : Nat → Nat → Int32) (hl : Nat → Nat → Int64) (v1 : Int32) : mj_den mj_P E d 182 273 [Value.ref 205, Value.int v1] [] (mj_hw w c hi hl) = some (none, (mj_hw w c hi hl)) := by
  rw [mj_den_eq, f182_273]
  exact zt_return
