set_option maxRecDepth 100000 in
theorem f7_0 : mj_find (mj_P 7).2.2.2.2 0 = [(.iconst 1, 1, 1, []), (.istore_n 1, 1, 0, []), (.iconst 2, 1, 2, []), (.istore_n 2, 1, 0, [])] := rfl
set_option maxRecDepth 100000 in
theorem q7_0 (E : mj_E) (d w c : Nat) (hi : Nat → Nat → Int32) (hl : Nat → Nat → Int64) (v0 : Int32) : mj_den mj_P E d 7 0 [Value.int v0, Value.float 0, Value.float 0] [] (mj_hw w c hi hl) = mj_den mj_P E d 7 4 [Value.int v0, Value.int (1 : Int32), Value.int (2 : Int32)] [] (mj_hw w c hi hl) := by
  rw [mj_den_eq, f7_0]
  exact zt_iconst rfl (zt_istore_n (Nat.le_of_ble_eq_true rfl) rfl rfl (zt_iconst rfl (zt_istore_n (Nat.le_of_ble_eq_true rfl) rfl rfl (zt_end rfl))))
set_option maxRecDepth 100000 in
theorem f7_4 : mj_find (mj_P 7).2.2.2.2 4 = [(.iload_n 2, 1, 0, []), (.iload_n 0, 1, 0, []), (.if_icmp .gt 19, 3, 0, [25]), (.iload_n 2, 1, 0, []), (.bipush 6, 2, 6, []), (.if_icmp .gt 13, 3, 0, [25]), (.iload_n 1, 1, 0, []), (.iload_n 2, 1, 0, []), (.imul, 1, 0, []), (.istore_n 1, 1, 0, []), (.iinc 2 1, 3, 1, []), (.goto (-18), 3, 0, [4])] := rfl
set_option maxRecDepth 100000 in
theorem q7_4 (E : mj_E) (d w c : Nat) (hi : Nat → Nat → Int32) (hl : Nat → Nat → Int64) (v0 : Int32) (v1 : Int32) (v2 : Int32) : mj_den mj_P E d 7 4 [Value.int v0, Value.int v1, Value.int v2] [] (mj_hw w c hi hl) = if v0 < v2 then mj_den mj_P E d 7 25 [Value.int v0, Value.int v1, Value.int v2] [] (mj_hw w c hi hl) else if (6 : Int32) < v2 then mj_den mj_P E d 7 25 [Value.int v0, Value.int v1, Value.int v2] [] (mj_hw w c hi hl) else mj_den mj_P E d 7 4 [Value.int v0, Value.int (v1 * v2), Value.int (v2 + (1 : Int32))] [] (mj_hw w c hi hl) := by
  rw [mj_den_eq, f7_4]
  exact zt_iload_n rfl rfl (zt_iload_n rfl rfl (zt_icmp_gt rfl rfl (zt_iload_n rfl rfl (zt_bipush rfl (zt_icmp_gt rfl rfl (zt_iload_n rfl rfl (zt_iload_n rfl rfl (zt_imul rfl (zt_istore_n (Nat.le_of_ble_eq_true rfl) rfl rfl (zt_iinc rfl (Nat.le_of_ble_eq_true rfl) rfl rfl (zt_goto rfl)))))))))))
set_option maxRecDepth 100000 in
theorem f7_25 : mj_find (mj_P 7).2.2.2.2 25 = [(.iload_n 1, 1, 0, []), (.ireturn, 1, 0, [0])] := rfl
set_option maxRecDepth 100000 in
theorem q7_25 (E : mj_E) (d w c : Nat) (hi : Nat → Nat → Int32) (hl : Nat → Nat → Int64) (v0 : Int32) (v1 : Int32) (v2 : Int32) : mj_den mj_P E d 7 25 [Value.int v0, Value.int v1, Value.int v2] [] (mj_hw w c hi hl) = some (some (Value.int v1), (mj_hw w c hi hl)) := by
  rw [mj_den_eq, f7_25]
  exact zt_iload_n rfl rfl (zt_ireturn0)
set_option maxRecDepth 100000 in
theorem f8_0 : mj_find (mj_P 8).2.2.2.2 0 = [(.iload_n 1, 1, 0, []), (.i2l, 1, 0, []), (.lstore 4, 2, 0, []), (.iconst 0, 1, 0, []), (.istore 6, 2, 0, [])] := rfl
set_option maxRecDepth 100000 in
theorem q8_0 (E : mj_E) (d w c : Nat) (hi : Nat → Nat → Int32) (hl : Nat → Nat → Int64) (v1 : Int32) (v2 : Int32) (v3 : Int32) : mj_den mj_P E d 8 0 [Value.ref 202, Value.int v1, Value.int v2, Value.int v3, Value.float 0, Value.float 0, Value.float 0] [] (mj_hw w c hi hl) = mj_den mj_P E d 8 7 [Value.ref 202, Value.int v1, Value.int v2, Value.int v3, Value.long ((v1).toInt64), Value.float 0, Value.int (0 : Int32)] [] (mj_hw w c hi hl) := by
  rw [mj_den_eq, f8_0]
  exact zt_iload_n rfl rfl (zt_i2l rfl (zt_lstore (Nat.le_of_ble_eq_true rfl) rfl rfl (zt_iconst rfl (zt_istore (Nat.le_of_ble_eq_true rfl) rfl rfl (zt_end rfl)))))
set_option maxRecDepth 100000 in
theorem f8_7 : mj_find (mj_P 8).2.2.2.2 7 = [(.iload 6, 2, 0, []), (.iload_n 2, 1, 0, []), (.if_icmp .ge 19, 3, 0, [29]), (.lload 4, 2, 0, []), (.bipush 9, 2, 9, []), (.iconst 4, 1, 4, []), (.invokestatic 52, 3, 0, [1, 9, 0, 3, 2, 1229, 1230, 154, 1231])] := rfl
set_option maxRecDepth 100000 in
theorem q8_7 (E : mj_E) (d w c : Nat) (hi : Nat → Nat → Int32) (hl : Nat → Nat → Int64) (v1 : Int32) (v2 : Int32) (v3 : Int32) (v4 : Int64) (v6 : Int32) : mj_den mj_P E d 8 7 [Value.ref 202, Value.int v1, Value.int v2, Value.int v3, Value.long v4, Value.float 0, Value.int v6] [] (mj_hw w c hi hl) = if v2 ≤ v6 then mj_den mj_P E d 8 29 [Value.ref 202, Value.int v1, Value.int v2, Value.int v3, Value.long v4, Value.float 0, Value.int v6] [] (mj_hw w c hi hl) else mj_bj (mj_dc mj_P E d 9 [Value.long v4, Value.int (9 : Int32), Value.int (4 : Int32)] (mj_hw w c hi hl)) (fun x1 h1 => mj_den mj_P E d 8 21 [Value.ref 202, Value.int v1, Value.int v2, Value.int v3, Value.long v4, Value.float 0, Value.int v6] [Value.long x1] h1) := by
  rw [mj_den_eq, f8_7]
  exact zt_iload rfl rfl (zt_iload_n rfl rfl (zt_icmp_ge rfl rfl (zt_lload rfl rfl (zt_bipush rfl (zt_iconst rfl (zt_call1_2 (Nat.le_of_ble_eq_true rfl) rfl (Nat.le_of_ble_eq_true rfl) rfl rfl))))))
set_option maxRecDepth 100000 in
theorem f8_21 : mj_find (mj_P 8).2.2.2.2 21 = [(.lstore 4, 2, 0, []), (.iinc 6 1, 3, 1, []), (.goto (-19), 3, 0, [7])] := rfl
set_option maxRecDepth 100000 in
theorem q8_21 (E : mj_E) (d w c : Nat) (hi : Nat → Nat → Int32) (hl : Nat → Nat → Int64) (v1 : Int32) (v2 : Int32) (v3 : Int32) (v4 : Int64) (v6 : Int32) (s0 : Int64) : mj_den mj_P E d 8 21 [Value.ref 202, Value.int v1, Value.int v2, Value.int v3, Value.long v4, Value.float 0, Value.int v6] [Value.long s0] (mj_hw w c hi hl) = mj_den mj_P E d 8 7 [Value.ref 202, Value.int v1, Value.int v2, Value.int v3, Value.long s0, Value.float 0, Value.int (v6 + (1 : Int32))] [] (mj_hw w c hi hl) := by
  rw [mj_den_eq, f8_21]
  exact zt_lstore (Nat.le_of_ble_eq_true rfl) rfl rfl (zt_iinc rfl (Nat.le_of_ble_eq_true rfl) rfl rfl (zt_goto rfl))
set_option maxRecDepth 100000 in
theorem f8_29 : mj_find (mj_P 8).2.2.2.2 29 = [(.iconst 0, 1, 0, []), (.istore 6, 2, 0, [])] := rfl
set_option maxRecDepth 100000 in
theorem q8_29 (E : mj_E) (d w c : Nat) (hi : Nat → Nat → Int32) (hl : Nat → Nat → Int64) (v1 : Int32) (v2 : Int32) (v3 : Int32) (v4 : Int64) (v6 : Int32) : mj_den mj_P E d 8 29 [Value.ref 202, Value.int v1, Value.int v2, Value.int v3, Value.long v4, Value.float 0, Value.int v6] [] (mj_hw w c hi hl) = mj_den mj_P E d 8 32 [Value.ref 202, Value.int v1, Value.int v2, Value.int v3, Value.long v4, Value.float 0, Value.int (0 : Int32)] [] (mj_hw w c hi hl) := by
  rw [mj_den_eq, f8_29]
  exact zt_iconst rfl (zt_istore (Nat.le_of_ble_eq_true rfl) rfl rfl (zt_end rfl))
set_option maxRecDepth 100000 in
theorem f8_32 : mj_find (mj_P 8).2.2.2.2 32 = [(.iload 6, 2, 0, []), (.iload_n 3, 1, 0, []), (.if_icmp .ge 19, 3, 0, [54]), (.lload 4, 2, 0, []), (.iconst 1, 1, 1, []), (.bipush 6, 2, 6, []), (.invokestatic 52, 3, 0, [1, 9, 0, 3, 2, 1229, 1230, 154, 1231])] := rfl
set_option maxRecDepth 100000 in
theorem q8_32 (E : mj_E) (d w c : Nat) (hi : Nat → Nat → Int32) (hl : Nat → Nat → Int64) (v1 : Int32) (v2 : Int32) (v3 : Int32) (v4 : Int64) (v6 : Int32) : mj_den mj_P E d 8 32 [Value.ref 202, Value.int v1, Value.int v2, Value.int v3, Value.long v4, Value.float 0, Value.int v6] [] (mj_hw w c hi hl) = if v3 ≤ v6 then mj_den mj_P E d 8 54 [Value.ref 202, Value.int v1, Value.int v2, Value.int v3, Value.long v4, Value.float 0, Value.int v6] [] (mj_hw w c hi hl) else mj_bj (mj_dc mj_P E d 9 [Value.long v4, Value.int (1 : Int32), Value.int (6 : Int32)] (mj_hw w c hi hl)) (fun x1 h1 => mj_den mj_P E d 8 46 [Value.ref 202, Value.int v1, Value.int v2, Value.int v3, Value.long v4, Value.float 0, Value.int v6] [Value.long x1] h1) := by
  rw [mj_den_eq, f8_32]
  exact zt_iload rfl rfl (zt_iload_n rfl rfl (zt_icmp_ge rfl rfl (zt_lload rfl rfl (zt_iconst rfl (zt_bipush rfl (zt_call1_2 (Nat.le_of_ble_eq_true rfl) rfl (Nat.le_of_ble_eq_true rfl) rfl rfl))))))
set_option maxRecDepth 100000 in
theorem f8_46 : mj_find (mj_P 8).2.2.2.2 46 = [(.lstore 4, 2, 0, []), (.iinc 6 1, 3, 1, []), (.goto (-19), 3, 0, [32])] := rfl
set_option maxRecDepth 100000 in
theorem q8_46 (E : mj_E) (d w c : Nat) (hi : Nat → Nat → Int32) (hl : Nat → Nat → Int64) (v1 : Int32) (v2 : Int32) (v3 : Int32) (v4 : Int64) (v6 : Int32) (s0 : Int64) : mj_den mj_P E d 8 46 [Value.ref 202, Value.int v1, Value.int v2, Value.int v3, Value.long v4, Value.float 0, Value.int v6] [Value.long s0] (mj_hw w c hi hl) = mj_den mj_P E d 8 32 [Value.ref 202, Value.int v1, Value.int v2, Value.int v3, Value.long s0, Value.float 0, Value.int (v6 + (1 : Int32))] [] (mj_hw w c hi hl) := by
  rw [mj_den_eq, f8_46]
  exact zt_lstore (Nat.le_of_ble_eq_true rfl) rfl rfl (zt_iinc rfl (Nat.le_of_ble_eq_true rfl) rfl rfl (zt_goto rfl))
set_option maxRecDepth 100000 in
theorem f8_54 : mj_find (mj_P 8).2.2.2.2 54 = [(.lload 4, 2, 0, []), (.l2i, 1, 0, []), (.ireturn, 1, 0, [0])] := rfl
set_option maxRecDepth 100000 in
theorem q8_54 (E : mj_E) (d w c : Nat) (hi : Nat → Nat → Int32) (hl : Nat → Nat → Int64) (v1 : Int32) (v2 : Int32) (v3 : Int32) (v4 : Int64) (v6 : Int32) : mj_den mj_P E d 8 54 [Value.ref 202, Value.int v1, Value.int v2, Value.int v3, Value.long v4, Value.float 0, Value.int v6] [] (mj_hw w c hi hl) = some (some (Value.int ((v4).toInt32)), (mj_hw w c hi hl)) := by
  rw [mj_den_eq, f8_54]
  exact zt_lload rfl rfl (zt_l2i rfl (zt_ireturn0))
set_option maxRecDepth 100000 in
theorem f9_0 : mj_find (mj_P 9).2.2.2.2 0 = [(.lload_n 0, 1, 0, []), (.iload_n 2, 1, 0, []), (.i2l, 1, 0, []), (.lmul, 1, 0, []), (.ldc2_w 56, 3, 0, [1000000, 1232]), (.lload_n 0, 1, 0, []), (.lsub, 1, 0, []), (.iload_n 3, 1, 0, []), (.i2l, 1, 0, []), (.lmul, 1, 0, []), (.ladd, 1, 0, []), (.lstore 4, 2, 0, []), (.lload 4, 2, 0, []), (.lconst 0, 1, 0, []), (.lcmp, 1, 0, []), (.ifCond .le 17, 3, 0, [36]), (.lload_n 0, 1, 0, []), (.iload_n 2, 1, 0, []), (.i2l, 1, 0, []), (.lmul, 1, 0, []), (.ldc2_w 56, 3, 0, [1000000, 1232]), (.lmul, 1, 0, []), (.lload 4, 2, 0, []), (.ldiv, 1, 0, []), (.goto 4, 3, 0, [37])] := rfl
set_option maxRecDepth 100000 in
theorem q9_0 (E : mj_E) (d w c : Nat) (hi : Nat → Nat → Int32) (hl : Nat → Nat → Int64) (v0 : Int64) (v2 : Int32) (v3 : Int32) : mj_den mj_P E d 9 0 [Value.long v0, Value.float 0, Value.int v2, Value.int v3, Value.float 0, Value.float 0] [] (mj_hw w c hi hl) = if (lg_cmp ((v0 * ((v2).toInt64)) + (((Int64.ofNat 1000000) - v0) * ((v3).toInt64))) (Int64.ofNat 0)) ≤ 0 then mj_den mj_P E d 9 36 [Value.long v0, Value.float 0, Value.int v2, Value.int v3, Value.long ((v0 * ((v2).toInt64)) + (((Int64.ofNat 1000000) - v0) * ((v3).toInt64))), Value.float 0] [] (mj_hw w c hi hl) else if ((v0 * ((v2).toInt64)) + (((Int64.ofNat 1000000) - v0) * ((v3).toInt64))) = 0 then none else mj_den mj_P E d 9 37 [Value.long v0, Value.float 0, Value.int v2, Value.int v3, Value.long ((v0 * ((v2).toInt64)) + (((Int64.ofNat 1000000) - v0) * ((v3).toInt64))), Value.float 0] [Value.long (((v0 * ((v2).toInt64)) * (Int64.ofNat 1000000)) / ((v0 * ((v2).toInt64)) + (((Int64.ofNat 1000000) - v0) * ((v3).toInt64))))] (mj_hw w c hi hl) := by
  rw [mj_den_eq, f9_0]
  exact zt_lload_n rfl rfl (zt_iload_n rfl rfl (zt_i2l rfl (zt_lmul rfl (zt_ldc2_w rfl (zt_lload_n rfl rfl (zt_lsub rfl (zt_iload_n rfl rfl (zt_i2l rfl (zt_lmul rfl (zt_ladd rfl (zt_lstore (Nat.le_of_ble_eq_true rfl) rfl rfl (zt_lload rfl rfl (zt_lconst rfl rfl (zt_lcmp rfl (zt_if_le rfl rfl (zt_lload_n rfl rfl (zt_iload_n rfl rfl (zt_i2l rfl (zt_lmul rfl (zt_ldc2_w rfl (zt_lmul rfl (zt_lload rfl rfl (zt_ldiv  rfl (zt_goto rfl))))))))))))))))))))))))
set_option maxRecDepth 100000 in
theorem f9_36 : mj_find (mj_P 9).2.2.2.2 36 = [(.lconst 0, 1, 0, [])] := rfl
set_option maxRecDepth 100000 in
theorem q9_36 (E : mj_E) (d w c : Nat) (hi : Nat → Nat → Int32) (hl : Nat → Nat → Int64) (v0 : Int64) (v2 : Int32) (v3 : Int32) (v4 : Int64) : mj_den mj_P E d 9 36 [Value.long v0, Value.float 0, Value.int v2, Value.int v3, Value.long v4, Value.float 0] [] (mj_hw w c hi hl) = mj_den mj_P E d 9 37 [Value.long v0, Value.float 0, Value.int v2, Value.int v3, Value.long v4, Value.float 0] [Value.long (Int64.ofNat 0)] (mj_hw w c hi hl) := by
  rw [mj_den_eq, f9_36]
  exact zt_lconst rfl rfl (zt_end rfl)
set_option maxRecDepth 100000 in
theorem f9_37 : mj_find (mj_P 9).2.2.2.2 37 = [(.lreturn, 1, 0, [])] := rfl
set_option maxRecDepth 100000 in
theorem q9_37 (E : mj_E) (d w c : Nat) (hi : Nat → Nat → Int32) (hl : Nat → Nat → Int64) (v0 : Int64) (v2 : Int32) (v3 : Int32) (v4 : Int64) (s0 : Int64) : mj_den mj_P E d 9 37 [Value.long v0, Value.float 0, Value.int v2, Value.int v3, Value.long v4, Value.float 0] [Value.long s0] (mj_hw w c hi hl) = some (some (Value.long s0), (mj_hw w c hi hl)) := by
  rw [mj_den_eq, f9_37]
  exact zt_lreturn
set_option maxRecDepth 100000 in
theorem f10_0 : mj_find (mj_P 10).2.2.2.2 0 = [(.iconst 0, 1, 0, []), (.istore_n 3, 1, 0, []), (.iconst 1, 1, 1, []), (.istore 4, 2, 0, [])] := rfl
set_option maxRecDepth 100000 in
theorem q10_0 (E : mj_E) (d w c : Nat) (hi : Nat → Nat → Int32) (hl : Nat → Nat → Int64) (v2 : Int32) : mj_den mj_P E d 10 0 [Value.ref 202, Value.ref 41, Value.int v2, Value.float 0, Value.float 0, Value.float 0] [] (mj_hw w c hi hl) = mj_den mj_P E d 10 5 [Value.ref 202, Value.ref 41, Value.int v2, Value.int (0 : Int32), Value.int (1 : Int32), Value.float 0] [] (mj_hw w c hi hl) := by
  rw [mj_den_eq, f10_0]
  exact zt_iconst rfl (zt_istore_n (Nat.le_of_ble_eq_true rfl) rfl rfl (zt_iconst rfl (zt_istore (Nat.le_of_ble_eq_true rfl) rfl rfl (zt_end rfl))))
set_option maxRecDepth 100000 in
theorem f10_5 : mj_find (mj_P 10).2.2.2.2 5 = [(.iload 4, 2, 0, []), (.iload_n 2, 1, 0, []), (.if_icmp .ge 46, 3, 0, [54]), (.iload 4, 2, 0, []), (.aload_n 1, 1, 0, []), (.arraylength, 1, 0, []), (.if_icmp .ge 39, 3, 0, [54]), (.iconst 0, 1, 0, []), (.istore 5, 2, 0, [])] := rfl
set_option maxRecDepth 100000 in
theorem q10_5 (E : mj_E) (d w c : Nat) (hi : Nat → Nat → Int32) (hl : Nat → Nat → Int64) (v2 : Int32) (v3 : Int32) (v4 : Int32) : mj_den mj_P E d 10 5 [Value.ref 202, Value.ref 41, Value.int v2, Value.int v3, Value.int v4, Value.float 0] [] (mj_hw w c hi hl) = if v2 ≤ v4 then mj_den mj_P E d 10 54 [Value.ref 202, Value.ref 41, Value.int v2, Value.int v3, Value.int v4, Value.float 0] [] (mj_hw w c hi hl) else if (Int32.ofNat 12) ≤ v4 then mj_den mj_P E d 10 54 [Value.ref 202, Value.ref 41, Value.int v2, Value.int v3, Value.int v4, Value.float 0] [] (mj_hw w c hi hl) else mj_den mj_P E d 10 21 [Value.ref 202, Value.ref 41, Value.int v2, Value.int v3, Value.int v4, Value.int (0 : Int32)] [] (mj_hw w c hi hl) := by
  rw [mj_den_eq, f10_5]
  exact zt_iload rfl rfl (zt_iload_n rfl rfl (zt_icmp_ge rfl rfl (zt_iload rfl rfl (zt_aload_n rfl rfl (zt_alen (q := 100) (mjkd41 _ _ _ _) (by decide) (mjln41 _ _ _ _) rfl (zt_icmp_ge rfl rfl (zt_iconst rfl (zt_istore (Nat.le_of_ble_eq_true rfl) rfl rfl (zt_end rfl)))))))))
set_option maxRecDepth 100000 in
theorem q10_5_1 (E : mj_E) (d w c : Nat) (hi : Nat → Nat → Int32) (hl : Nat → Nat → Int64) (v2 : Int32) (v3 : Int32) (v4 : Int32) (v5 : Int32) : mj_den mj_P E d 10 5 [Value.ref 202, Value.ref 41, Value.int v2, Value.int v3, Value.int v4, Value.int v5] [] (mj_hw w c hi hl) = if v2 ≤ v4 then mj_den mj_P E d 10 54 [Value.ref 202, Value.ref 41, Value.int v2, Value.int v3, Value.int v4, Value.int v5] [] (mj_hw w c hi hl) else if (Int32.ofNat 12) ≤ v4 then mj_den mj_P E d 10 54 [Value.ref 202, Value.ref 41, Value.int v2, Value.int v3, Value.int v4, Value.int v5] [] (mj_hw w c hi hl) else mj_den mj_P E d 10 21 [Value.ref 202, Value.ref 41, Value.int v2, Value.int v3, Value.int v4, Value.int (0 : Int32)] [] (mj_hw w c hi hl) := by
  rw [mj_den_eq, f10_5]
  exact zt_iload rfl rfl (zt_iload_n rfl rfl (zt_icmp_ge rfl rfl (zt_iload rfl rfl (zt_aload_n rfl rfl (zt_alen (q := 100) (mjkd41 _ _ _ _) (by decide) (mjln41 _ _ _ _) rfl (zt_icmp_ge rfl rfl (zt_iconst rfl (zt_istore (Nat.le_of_ble_eq_true rfl) rfl rfl (zt_end rfl)))))))))
set_option maxRecDepth 100000 in
theorem f10_21 : mj_find (mj_P 10).2.2.2.2 21 = [(.iload 5, 2, 0, []), (.iload 4, 2, 0, []), (.if_icmp .ge 23, 3, 0, [48]), (.aload_n 1, 1, 0, []), (.iload 5, 2, 0, []), (.iaload, 1, 0, []), (.aload_n 1, 1, 0, []), (.iload 4, 2, 0, []), (.iaload, 1, 0, []), (.if_icmp .le 6, 3, 0, [42]), (.iinc 3 1, 3, 1, [])] := rfl
set_option maxRecDepth 100000 in
theorem q10_21 (E : mj_E) (d w c : Nat) (hi : Nat → Nat → Int32) (hl : Nat → Nat → Int64) (v2 : Int32) (v3 : Int32) (v4 : Int32) (v5 : Int32) : mj_den mj_P E d 10 21 [Value.ref 202, Value.ref 41, Value.int v2, Value.int v3, Value.int v4, Value.int v5] [] (mj_hw w c hi hl) = if v4 ≤ v5 then mj_den mj_P E d 10 48 [Value.ref 202, Value.ref 41, Value.int v2, Value.int v3, Value.int v4, Value.int v5] [] (mj_hw w c hi hl) else if 0 ≤ v5 ∧ (v5).toNatClampNeg < 12 then if 0 ≤ v4 ∧ (v4).toNatClampNeg < 12 then if (hi 41 ((v5).toNatClampNeg)) ≤ (hi 41 ((v4).toNatClampNeg)) then mj_den mj_P E d 10 42 [Value.ref 202, Value.ref 41, Value.int v2, Value.int v3, Value.int v4, Value.int v5] [] (mj_hw w c hi hl) else mj_den mj_P E d 10 42 [Value.ref 202, Value.ref 41, Value.int v2, Value.int (v3 + (1 : Int32)), Value.int v4, Value.int v5] [] (mj_hw w c hi hl) else none else none := by
  rw [mj_den_eq, f10_21]
  exact zt_iload rfl rfl (zt_iload rfl rfl (zt_icmp_ge rfl rfl (zt_aload_n rfl rfl (zt_iload rfl rfl (zt_iald (mjkd41 _ _ _ _) (mjln41 _ _ _ _) rfl rfl (zt_aload_n rfl rfl (zt_iload rfl rfl (zt_iald (mjkd41 _ _ _ _) (mjln41 _ _ _ _) rfl rfl (zt_icmp_le rfl rfl (zt_iinc rfl (Nat.le_of_ble_eq_true rfl) rfl rfl (zt_end rfl)))))))))))
set_option maxRecDepth 100000 in
theorem f10_42 : mj_find (mj_P 10).2.2.2.2 42 = [(.iinc 5 1, 3, 1, []), (.goto (-24), 3, 0, [21])] := rfl
set_option maxRecDepth 100000 in
theorem q10_42 (E : mj_E) (d w c : Nat) (hi : Nat → Nat → Int32) (hl : Nat → Nat → Int64) (v2 : Int32) (v3 : Int32) (v4 : Int32) (v5 : Int32) : mj_den mj_P E d 10 42 [Value.ref 202, Value.ref 41, Value.int v2, Value.int v3, Value.int v4, Value.int v5] [] (mj_hw w c hi hl) = mj_den mj_P E d 10 21 [Value.ref 202, Value.ref 41, Value.int v2, Value.int v3, Value.int v4, Value.int (v5 + (1 : Int32))] [] (mj_hw w c hi hl) := by
  rw [mj_den_eq, f10_42]
  exact zt_iinc rfl (Nat.le_of_ble_eq_true rfl) rfl rfl (zt_goto rfl)
set_option maxRecDepth 100000 in
theorem f10_48 : mj_find (mj_P 10).2.2.2.2 48 = [(.iinc 4 1, 3, 1, []), (.goto (-46), 3, 0, [5])] := rfl
set_option maxRecDepth 100000 in
theorem q10_48 (E : mj_E) (d w c : Nat) (hi : Nat → Nat → Int32) (hl : Nat → Nat → Int64) (v2 : Int32) (v3 : Int32) (v4 : Int32) (v5 : Int32) : mj_den mj_P E d 10 48 [Value.ref 202, Value.ref 41, Value.int v2, Value.int v3, Value.int v4, Value.int v5] [] (mj_hw w c hi hl) = mj_den mj_P E d 10 5 [Value.ref 202, Value.ref 41, Value.int v2, Value.int v3, Value.int (v4 + (1 : Int32)), Value.int v5] [] (mj_hw w c hi hl) := by
  rw [mj_den_eq, f10_48]
  exact zt_iinc rfl (Nat.le_of_ble_eq_true rfl) rfl rfl (zt_goto rfl)
set_option maxRecDepth 100000 in
theorem f10_54 : mj_find (mj_P 10).2.2.2.2 54 = [(.iload_n 3, 1, 0, []), (.ireturn, 1, 0, [0])] := rfl
set_option maxRecDepth 100000 in
theorem q10_54 (E : mj_E) (d w c : Nat) (hi : Nat → Nat → Int32) (hl : Nat → Nat → Int64) (v2 : Int32) (v3 : Int32) (v4 : Int32) (v5 : Int32) : mj_den mj_P E d 10 54 [Value.ref 202, Value.ref 41, Value.int v2, Value.int v3, Value.int v4, Value.int v5] [] (mj_hw w c hi hl) = some (some (Value.int v3), (mj_hw w c hi hl)) := by
  rw [mj_den_eq, f10_54]
  exact zt_iload_n rfl rfl (zt_ireturn0)
set_option maxRecDepth 100000 in
theorem q10_54_1 (E : mj_E) (d w c : Nat) (hi : Nat → Nat → Int32) (hl : Nat → Nat → Int64) (v2 : Int32) (v3 : Int32) (v4 : Int32) : mj_den mj_P E d 10 54 [Value.ref 202, Value.ref 41, Value.int v2, Value.int v3, Value.int v4, Value.float 0] [] (mj_hw w c hi hl) = some (some (Value.int v3), (mj_hw w c hi hl)) := by
  rw [mj_den_eq, f10_54]
  exact zt_iload_n rfl rfl (zt_ireturn0)
set_option maxRecDepth 100000 in
theorem f11_0 : mj_find (mj_P 11).2.2.2.2 0 = [(.iload_n 1, 1, 0, []), (.bipush 12, 2, 12, []), (.invokestatic 58, 3, 0, [6, 147, 0, 2, 1, 1349, 684, 143, 685])] := rfl
set_option maxRecDepth 100000 in
theorem q11_0 (E : mj_E) (d w c : Nat) (hi : Nat → Nat → Int32) (hl : Nat → Nat → Int64) (v1 : Int32) : mj_den mj_P E d 11 0 [Value.ref 202, Value.int v1] [] (mj_hw w c hi hl) = mj_bi (mj_dc mj_P E d 147 [Value.int v1, Value.int (12 : Int32)] (mj_hw w c hi hl)) (fun x1 h1 => mj_den mj_P E d 11 6 [Value.ref 202, Value.int v1] [Value.int x1] h1) := by
  rw [mj_den_eq, f11_0]
  exact zt_iload_n rfl rfl (zt_bipush rfl (zt_call6_1 (Nat.le_of_ble_eq_true rfl) rfl (Nat.le_of_ble_eq_true rfl) rfl rfl))
set_option maxRecDepth 100000 in
theorem f11_6 : mj_find (mj_P 11).2.2.2.2 6 = [(.ifCond .eq 12, 3, 0, [18]), (.aload_n 0, 1, 0, []), (.getfield 9, 3, 0, [1, 0, 3, 633]), (.iload_n 1, 1, 0, []), (.iaload, 1, 0, []), (.goto 4, 3, 0, [19])] := rfl
set_option maxRecDepth 100000 in
theorem q11_6 (E : mj_E) (d w c : Nat) (hi : Nat → Nat → Int32) (hl : Nat → Nat → Int64) (v1 : Int32) (s0 : Int32) : mj_den mj_P E d 11 6 [Value.ref 202, Value.int v1] [Value.int s0] (mj_hw w c hi hl) = if s0 = 0 then mj_den mj_P E d 11 18 [Value.ref 202, Value.int v1] [] (mj_hw w c hi hl) else if 0 ≤ v1 ∧ (v1).toNatClampNeg < 13 then mj_den mj_P E d 11 19 [Value.ref 202, Value.int v1] [Value.int (hi 203 ((v1).toNatClampNeg))] (mj_hw w c hi hl) else none := by
  rw [mj_den_eq, f11_6]
  exact zt_if_eq rfl rfl (zt_aload_n rfl rfl (zt_getr (mjkd202 _ _ _ _) (mjhr202_0 w c) rfl (zt_iload_n rfl rfl (zt_iald (mjkd203 _ _ _ _) (mjln203 _ _ _ _) rfl rfl (zt_goto rfl)))))
set_option maxRecDepth 100000 in
theorem f11_18 : mj_find (mj_P 11).2.2.2.2 18 = [(.iconst 0, 1, 0, [])] := rfl
set_option maxRecDepth 100000 in
theorem q11_18 (E : mj_E) (d w c : Nat) (hi : Nat → Nat → Int32) (hl : Nat → Nat → Int64) (v1 : Int32) : mj_den mj_P E d 11 18 [Value.ref 202, Value.int v1] [] (mj_hw w c hi hl) = mj_den mj_P E d 11 19 [Value.ref 202, Value.int v1] [Value.int (0 : Int32)] (mj_hw w c hi hl) := by
  rw [mj_den_eq, f11_18]
  exact zt_iconst rfl (zt_end rfl)
set_option maxRecDepth 100000 in
theorem f11_19 : mj_find (mj_P 11).2.2.2.2 19 = [(.ireturn, 1, 0, [0])] := rfl
set_option maxRecDepth 100000 in
theorem q11_19 (E : mj_E) (d w c : Nat) (hi : Nat → Nat → Int32) (hl : Nat → Nat → Int64) (v1 : Int32) (s0 : Int32) : mj_den mj_P E d 11 19 [Value.ref 202, Value.int v1] [Value.int s0] (mj_hw w c hi hl) = some (some (Value.int s0), (mj_hw w c hi hl)) := by
  rw [mj_den_eq, f11_19]
  exact zt_ireturn0
set_option maxRecDepth 100000 in
theorem f12_0 : mj_find (mj_P 12).2.2.2.2 0 = [(.iconst 0, 1, 0, []), (.istore_n 2, 1, 0, []), (.iconst 0, 1, 0, []), (.istore_n 3, 1, 0, [])] := rfl
set_option maxRecDepth 100000 in
theorem q12_0 (E : mj_E) (d w c : Nat) (hi : Nat → Nat → Int32) (hl : Nat → Nat → Int64) : mj_den mj_P E d 12 0 [Value.ref 202, Value.ref 2, Value.float 0, Value.float 0] [] (mj_hw w c hi hl) = mj_den mj_P E d 12 4 [Value.ref 202, Value.ref 2, Value.int (0 : Int32), Value.int (0 : Int32)] [] (mj_hw w c hi hl) := by
  rw [mj_den_eq, f12_0]
  exact zt_iconst rfl (zt_istore_n (Nat.le_of_ble_eq_true rfl) rfl rfl (zt_iconst rfl (zt_istore_n (Nat.le_of_ble_eq_true rfl) rfl rfl (zt_end rfl))))
set_option maxRecDepth 100000 in
theorem f12_4 : mj_find (mj_P 12).2.2.2.2 4 = [(.iload_n 3, 1, 0, []), (.aload_n 1, 1, 0, []), (.getfield 61, 3, 0, [7, 0, 0, 188]), (.if_icmp .ge 28, 3, 0, [37]), (.iload_n 3, 1, 0, []), (.bipush 10, 2, 10, []), (.if_icmp .ge 22, 3, 0, [37]), (.iload_n 2, 1, 0, []), (.aload_n 0, 1, 0, []), (.aload_n 1, 1, 0, []), (.getfield 66, 3, 0, [7, 13, 3, 227]), (.iload_n 3, 1, 0, []), (.iaload, 1, 0, []), (.invokevirtual 69, 3, 0, [0, 11, 1, 1, 1, 1345, 1347, 41, 154, 1348])] := rfl
set_option maxRecDepth 100000 in
theorem q12_4 (E : mj_E) (d w c : Nat) (hi : Nat → Nat → Int32) (hl : Nat → Nat → Int64) (v2 : Int32) (v3 : Int32) : mj_den mj_P E d 12 4 [Value.ref 202, Value.ref 2, Value.int v2, Value.int v3] [] (mj_hw w c hi hl) = if (hi 2 0) ≤ v3 then mj_den mj_P E d 12 37 [Value.ref 202, Value.ref 2, Value.int v2, Value.int v3] [] (mj_hw w c hi hl) else if (10 : Int32) ≤ v3 then mj_den mj_P E d 12 37 [Value.ref 202, Value.ref 2, Value.int v2, Value.int v3] [] (mj_hw w c hi hl) else if 0 ≤ v3 ∧ (v3).toNatClampNeg < 10 then mj_bi (mj_dc mj_P E d 11 [Value.ref 202, Value.int (hi 9 ((v3).toNatClampNeg))] (mj_hw w c hi hl)) (fun x1 h1 => mj_den mj_P E d 12 29 [Value.ref 202, Value.ref 2, Value.int v2, Value.int v3] [Value.int x1, Value.int v2] h1) else none := by
  rw [mj_den_eq, f12_4]
  exact zt_iload_n rfl rfl (zt_aload_n rfl rfl (zt_geti (mjkd2 _ _ _ _) rfl rfl (zt_icmp_ge rfl rfl (zt_iload_n rfl rfl (zt_bipush rfl (zt_icmp_ge rfl rfl (zt_iload_n rfl rfl (zt_aload_n rfl rfl (zt_aload_n rfl rfl (zt_getr (mjkd2 _ _ _ _) (mjhr2_13 w c) rfl (zt_iload_n rfl rfl (zt_iald (mjkd9 _ _ _ _) (mjln9 _ _ _ _) rfl rfl (zt_call0_1 rfl (mjkd202 _ _ _ _) (Nat.le_of_ble_eq_true rfl) rfl rfl)))))))))))))
set_option maxRecDepth 100000 in
theorem f12_29 : mj_find (mj_P 12).2.2.2.2 29 = [(.ixor, 1, 0, []), (.istore_n 2, 1, 0, []), (.iinc 3 1, 3, 1, []), (.goto (-30), 3, 0, [4])] := rfl
set_option maxRecDepth 100000 in
theorem q12_29 (E : mj_E) (d w c : Nat) (hi : Nat → Nat → Int32) (hl : Nat → Nat → Int64) (v2 : Int32) (v3 : Int32) (s0 : Int32) (s1 : Int32) : mj_den mj_P E d 12 29 [Value.ref 202, Value.ref 2, Value.int v2, Value.int v3] [Value.int s0, Value.int s1] (mj_hw w c hi hl) = mj_den mj_P E d 12 4 [Value.ref 202, Value.ref 2, Value.int (s1 ^^^ s0), Value.int (v3 + (1 : Int32))] [] (mj_hw w c hi hl) := by
  rw [mj_den_eq, f12_29]
  exact zt_ixor rfl (zt_istore_n (Nat.le_of_ble_eq_true rfl) rfl rfl (zt_iinc rfl (Nat.le_of_ble_eq_true rfl) rfl rfl (zt_goto rfl)))
set_option maxRecDepth 100000 in
theorem f12_37 : mj_find (mj_P 12).2.2.2.2 37 = [(.iload_n 2, 1, 0, []), (.ireturn, 1, 0, [0])] := rfl
set_option maxRecDepth 100000 in
theorem q12_37 (E : mj_E) (d w c : Nat) (hi : Nat → Nat → Int32) (hl : Nat → Nat → Int64) (v2 : Int32) (v3 : Int32) : mj_den mj_P E d 12 37 [Value.ref 202, Value.ref 2, Value.int v2, Value.int v3] [] (mj_hw w c hi hl) = some (some (Value.int v2), (mj_hw w c hi hl)) := by
  rw [mj_den_eq, f12_37]
  exact zt_iload_n rfl rfl (zt_ireturn0)
set_option maxRecDepth 100000 in
theorem f13_0 : mj_find (mj_P 13).2.2.2.2 0 = [(.iconst 0, 1, 0, []), (.istore_n 2, 1, 0, [])] := rfl
set_option maxRecDepth 100000 in
theorem q13_0 (E : mj_E) (d w c : Nat) (hi : Nat → Nat → Int32) (hl : Nat → Nat → Int64) : mj_den mj_P E d 13 0 [Value.ref 202, Value.ref 2, Value.float 0] [] (mj_hw w c hi hl) = mj_den mj_P E d 13 2 [Value.ref 202, Value.ref 2, Value.int (0 : Int32)] [] (mj_hw w c hi hl) := by
  rw [mj_den_eq, f13_0]
  exact zt_iconst rfl (zt_istore_n (Nat.le_of_ble_eq_true rfl) rfl rfl (zt_end rfl))
set_option maxRecDepth 100000 in
theorem f13_2 : mj_find (mj_P 13).2.2.2.2 2 = [(.iload_n 2, 1, 0, []), (.aload_n 1, 1, 0, []), (.getfield 61, 3, 0, [7, 0, 0, 188]), (.if_icmp .ge 21, 3, 0, [28]), (.aload_n 0, 1, 0, []), (.aload_n 1, 1, 0, []), (.iload_n 2, 1, 0, []), (.invokevirtual 72, 3, 0, [0, 14, 1, 2, 1, 1336, 1337, 1338, 154, 1339])] := rfl
set_option maxRecDepth 100000 in
theorem q13_2 (E : mj_E) (d w c : Nat) (hi : Nat → Nat → Int32) (hl : Nat → Nat → Int64) (v2 : Int32) : mj_den mj_P E d 13 2 [Value.ref 202, Value.ref 2, Value.int v2] [] (mj_hw w c hi hl) = if (hi 2 0) ≤ v2 then mj_den mj_P E d 13 28 [Value.ref 202, Value.ref 2, Value.int v2] [] (mj_hw w c hi hl) else mj_bi (mj_dc mj_P E d 14 [Value.ref 202, Value.ref 2, Value.int v2] (mj_hw w c hi hl)) (fun x1 h1 => mj_den mj_P E d 13 16 [Value.ref 202, Value.ref 2, Value.int v2] [Value.int x1] h1) := by
  rw [mj_den_eq, f13_2]
  exact zt_iload_n rfl rfl (zt_aload_n rfl rfl (zt_geti (mjkd2 _ _ _ _) rfl rfl (zt_icmp_ge rfl rfl (zt_aload_n rfl rfl (zt_aload_n rfl rfl (zt_iload_n rfl rfl (zt_call0_1 rfl (mjkd202 _ _ _ _) (Nat.le_of_ble_eq_true rfl) rfl rfl)))))))
set_option maxRecDepth 100000 in
theorem f13_16 : mj_find (mj_P 13).2.2.2.2 16 = [(.iconst (-1), 1, (-1), []), (.if_icmp .eq 5, 3, 0, [22]), (.iload_n 2, 1, 0, []), (.ireturn, 1, 0, [0])] := rfl
set_option maxRecDepth 100000 in
theorem q13_16 (E : mj_E) (d w c : Nat) (hi : Nat → Nat → Int32) (hl : Nat → Nat → Int64) (v2 : Int32) (s0 : Int32) : mj_den mj_P E d 13 16 [Value.ref 202, Value.ref 2, Value.int v2] [Value.int s0] (mj_hw w c hi hl) = if s0 = (-1 : Int32) then mj_den mj_P E d 13 22 [Value.ref 202, Value.ref 2, Value.int v2] [] (mj_hw w c hi hl) else some (some (Value.int v2), (mj_hw w c hi hl)) := by
  rw [mj_den_eq, f13_16]
  exact zt_iconst rfl (zt_icmp_eq rfl rfl (zt_iload_n rfl rfl (zt_ireturn0)))
set_option maxRecDepth 100000 in
theorem f13_22 : mj_find (mj_P 13).2.2.2.2 22 = [(.iinc 2 1, 3, 1, []), (.goto (-23), 3, 0, [2])] := rfl
set_option maxRecDepth 100000 in
theorem q13_22 (E : mj_E) (d w c : Nat) (hi : Nat → Nat → Int32) (hl : Nat → Nat → Int64) (v2 : Int32) : mj_den mj_P E d 13 22 [Value.ref 202, Value.ref 2, Value.int v2] [] (mj_hw w c hi hl) = mj_den mj_P E d 13 2 [Value.ref 202, Value.ref 2, Value.int (v2 + (1 : Int32))] [] (mj_hw w c hi hl) := by
  rw [mj_den_eq, f13_22]
  exact zt_iinc rfl (Nat.le_of_ble_eq_true rfl) rfl rfl (zt_goto rfl)
set_option maxRecDepth 100000 in
theorem f13_28 : mj_find (mj_P 13).2.2.2.2 28 = [(.iconst (-1), 1, (-1), []), (.ireturn, 1, 0, [0])] := rfl
set_option maxRecDepth 100000 in
theorem q13_28 (E : mj_E) (d w c : Nat) (hi : Nat → Nat → Int32) (hl : Nat → Nat → Int64) (v2 : Int32) : mj_den mj_P E d 13 28 [Value.ref 202, Value.ref 2, Value.int v2] [] (mj_hw w c hi hl) = some (some (Value.int (-1 : Int32)), (mj_hw w c hi hl)) := by
  rw [mj_den_eq, f13_28]
  exact zt_iconst rfl (zt_ireturn0)
set_option maxRecDepth 100000 in
theorem f14_0 : mj_find (mj_P 14).2.2.2.2 0 = [(.aload_n 1, 1, 0, []), (.iload_n 2, 1, 0, []), (.invokevirtual 76, 3, 0, [0, 70, 7, 1, 1, 1340, 705, 706, 145, 707])] := rfl
set_option maxRecDepth 100000 in
theorem q14_0 (E : mj_E) (d w c : Nat) (hi : Nat → Nat → Int32) (hl : Nat → Nat → Int64) (v2 : Int32) : mj_den mj_P E d 14 0 [Value.ref 202, Value.ref 2, Value.int v2, Value.float 0, Value.float 0, Value.float 0] [] (mj_hw w c hi hl) = mj_bi (mj_dc mj_P E d 70 [Value.ref 2, Value.int v2] (mj_hw w c hi hl)) (fun x1 h1 => mj_den mj_P E d 14 5 [Value.ref 202, Value.ref 2, Value.int v2, Value.float 0, Value.float 0, Value.float 0] [Value.int x1] h1) := by
  rw [mj_den_eq, f14_0]
  exact zt_aload_n rfl rfl (zt_iload_n rfl rfl (zt_call0_1 rfl (mjkd2 _ _ _ _) (Nat.le_of_ble_eq_true rfl) rfl rfl))
set_option maxRecDepth 100000 in
theorem f14_5 : mj_find (mj_P 14).2.2.2.2 5 = [(.ifCond .ne 5, 3, 0, [10]), (.iconst (-1), 1, (-1), []), (.ireturn, 1, 0, [0])] := rfl
set_option maxRecDepth 100000 in
theorem q14_5 (E : mj_E) (d w c : Nat) (hi : Nat → Nat → Int32) (hl : Nat → Nat → Int64) (v2 : Int32) (s0 : Int32) : mj_den mj_P E d 14 5 [Value.ref 202, Value.ref 2, Value.int v2, Value.float 0, Value.float 0, Value.float 0] [Value.int s0] (mj_hw w c hi hl) = if ¬ s0 = 0 then mj_den mj_P E d 14 10 [Value.ref 202, Value.ref 2, Value.int v2, Value.float 0, Value.float 0, Value.float 0] [] (mj_hw w c hi hl) else some (some (Value.int (-1 : Int32)), (mj_hw w c hi hl)) := by
  rw [mj_den_eq, f14_5]
  exact zt_if_ne rfl rfl (zt_iconst rfl (zt_ireturn0))
set_option maxRecDepth 100000 in
theorem f14_10 : mj_find (mj_P 14).2.2.2.2 10 = [(.aload_n 1, 1, 0, []), (.getfield 66, 3, 0, [7, 13, 3, 227]), (.iload_n 2, 1, 0, []), (.iaload, 1, 0, []), (.istore_n 3, 1, 0, []), (.aload_n 0, 1, 0, []), (.aload_n 1, 1, 0, []), (.invokevirtual 80, 3, 0, [0, 12, 1, 1, 1, 1341, 1343, 40, 154, 1344])] := rfl
set_option maxRecDepth 100000 in
theorem q14_10 (E : mj_E) (d w c : Nat) (hi : Nat → Nat → Int32) (hl : Nat → Nat → Int64) (v2 : Int32) : mj_den mj_P E d 14 10 [Value.ref 202, Value.ref 2, Value.int v2, Value.float 0, Value.float 0, Value.float 0] [] (mj_hw w c hi hl) = if 0 ≤ v2 ∧ (v2).toNatClampNeg < 10 then mj_bi (mj_dc mj_P E d 12 [Value.ref 202, Value.ref 2] (mj_hw w c hi hl)) (fun x1 h1 => mj_den mj_P E d 14 22 [Value.ref 202, Value.ref 2, Value.int v2, Value.int (hi 9 ((v2).toNatClampNeg)), Value.float 0, Value.float 0] [Value.int x1] h1) else none := by
  rw [mj_den_eq, f14_10]
  exact zt_aload_n rfl rfl (zt_getr (mjkd2 _ _ _ _) (mjhr2_13 w c) rfl (zt_iload_n rfl rfl (zt_iald (mjkd9 _ _ _ _) (mjln9 _ _ _ _) rfl rfl (zt_istore_n (Nat.le_of_ble_eq_true rfl) rfl rfl (zt_aload_n rfl rfl (zt_aload_n rfl rfl (zt_call0_1 rfl (mjkd202 _ _ _ _) (Nat.le_of_ble_eq_true rfl) rfl rfl)))))))
set_option maxRecDepth 100000 in
theorem f14_22 : mj_find (mj_P 14).2.2.2.2 22 = [(.aload_n 0, 1, 0, []), (.iload_n 3, 1, 0, []), (.invokevirtual 69, 3, 0, [0, 11, 1, 1, 1, 1345, 1347, 41, 154, 1348])] := rfl
set_option maxRecDepth 100000 in
theorem q14_22 (E : mj_E) (d w c : Nat) (hi : Nat → Nat → Int32) (hl : Nat → Nat → Int64) (v2 : Int32) (v3 : Int32) (s0 : Int32) : mj_den mj_P E d 14 22 [Value.ref 202, Value.ref 2, Value.int v2, Value.int v3, Value.float 0, Value.float 0] [Value.int s0] (mj_hw w c hi hl) = mj_bi (mj_dc mj_P E d 11 [Value.ref 202, Value.int v3] (mj_hw w c hi hl)) (fun x1 h1 => mj_den mj_P E d 14 27 [Value.ref 202, Value.ref 2, Value.int v2, Value.int v3, Value.float 0, Value.float 0] [Value.int x1, Value.int s0] h1) := by
  rw [mj_den_eq, f14_22]
  exact zt_aload_n rfl rfl (zt_iload_n rfl rfl (zt_call0_1 rfl (mjkd202 _ _ _ _) (Nat.le_of_ble_eq_true rfl) rfl rfl))
set_option maxRecDepth 100000 in
theorem f14_27 : mj_find (mj_P 14).2.2.2.2 27 = [(.ixor, 1, 0, []), (.istore 4, 2, 0, []), (.iconst 1, 1, 1, []), (.istore 5, 2, 0, [])] := rfl
set_option maxRecDepth 100000 in
theorem q14_27 (E : mj_E) (d w c : Nat) (hi : Nat → Nat → Int32) (hl : Nat → Nat → Int64) (v2 : Int32) (v3 : Int32) (s0 : Int32) (s1 : Int32) : mj_den mj_P E d 14 27 [Value.ref 202, Value.ref 2, Value.int v2, Value.int v3, Value.float 0, Value.float 0] [Value.int s0, Value.int s1] (mj_hw w c hi hl) = mj_den mj_P E d 14 33 [Value.ref 202, Value.ref 2, Value.int v2, Value.int v3, Value.int (s1 ^^^ s0), Value.int (1 : Int32)] [] (mj_hw w c hi hl) := by
  rw [mj_den_eq, f14_27]
  exact zt_ixor rfl (zt_istore (Nat.le_of_ble_eq_true rfl) rfl rfl (zt_iconst rfl (zt_istore (Nat.le_of_ble_eq_true rfl) rfl rfl (zt_end rfl))))
set_option maxRecDepth 100000 in
theorem f14_33 : mj_find (mj_P 14).2.2.2.2 33 = [(.iload 5, 2, 0, []), (.iload_n 3, 1, 0, []), (.iconst 1, 1, 1, []), (.iadd, 1, 0, []), (.iconst 2, 1, 2, []), (.idiv, 1, 0, []), (.if_icmp .gt 25, 3, 0, [65]), (.aload_n 0, 1, 0, []), (.iload_n 3, 1, 0, []), (.iload 5, 2, 0, []), (.isub, 1, 0, []), (.invokevirtual 69, 3, 0, [0, 11, 1, 1, 1, 1345, 1347, 41, 154, 1348])] := rfl
set_option maxRecDepth 100000 in
theorem q14_33 (E : mj_E) (d w c : Nat) (hi : Nat → Nat → Int32) (hl : Nat → Nat → Int64) (v2 : Int32) (v3 : Int32) (v4 : Int32) (v5 : Int32) : mj_den mj_P E d 14 33 [Value.ref 202, Value.ref 2, Value.int v2, Value.int v3, Value.int v4, Value.int v5] [] (mj_hw w c hi hl) = if (2 : Int32) = 0 then none else if ((v3 + (1 : Int32)) / (2 : Int32)) < v5 then mj_den mj_P E d 14 65 [Value.ref 202, Value.ref 2, Value.int v2, Value.int v3, Value.int v4, Value.int v5] [] (mj_hw w c hi hl) else mj_bi (mj_dc mj_P E d 11 [Value.ref 202, Value.int (v3 - v5)] (mj_hw w c hi hl)) (fun x1 h1 => mj_den mj_P E d 14 51 [Value.ref 202, Value.ref 2, Value.int v2, Value.int v3, Value.int v4, Value.int v5] [Value.int x1] h1) := by
  rw [mj_den_eq, f14_33]
  exact zt_iload rfl rfl (zt_iload_n rfl rfl (zt_iconst rfl (zt_iadd rfl (zt_iconst rfl (zt_idiv  rfl (zt_icmp_gt rfl rfl (zt_aload_n rfl rfl (zt_iload_n rfl rfl (zt_iload rfl rfl (zt_isub rfl (zt_call0_1 rfl (mjkd202 _ _ _ _) (Nat.le_of_ble_eq_true rfl) rfl rfl)))))))))))
set_option maxRecDepth 100000 in
theorem f14_51 : mj_find (mj_P 14).2.2.2.2 51 = [(.iload 4, 2, 0, []), (.if_icmp .ne 6, 3, 0, [59]), (.iload 5, 2, 0, []), (.ireturn, 1, 0, [0])] := rfl
set_option maxRecDepth 100000 in
theorem q14_51 (E : mj_E) (d w c : Nat) (hi : Nat → Nat → Int32) (hl : Nat → Nat → Int64) (v2 : Int32) (v3 : Int32) (v4 : Int32) (v5 : Int32) (s0 : Int32) : mj_den mj_P E d 14 51 [Value.ref 202, Value.ref 2, Value.int v2, Value.int v3, Value.int v4, Value.int v5] [Value.int s0] (mj_hw w c hi hl) = if ¬ s0 = v4 then mj_den mj_P E d 14 59 [Value.ref 202, Value.ref 2, Value.int v2, Value.int v3, Value.int v4, Value.int v5] [] (mj_hw w c hi hl) else some (some (Value.int v5), (mj_hw w c hi hl)) := by
  rw [mj_den_eq, f14_51]
  exact zt_iload rfl rfl (zt_icmp_ne rfl rfl (zt_iload rfl rfl (zt_ireturn0)))
set_option maxRecDepth 100000 in
theorem f14_59 : mj_find (mj_P 14).2.2.2.2 59 = [(.iinc 5 1, 3, 1, []), (.goto (-29), 3, 0, [33])] := rfl
set_option maxRecDepth 100000 in
theorem q14_59 (E : mj_E) (d w c : Nat) (hi : Nat → Nat → Int32) (hl : Nat → Nat → Int64) (v2 : Int32) (v3 : Int32) (v4 : Int32) (v5 : Int32) : mj_den mj_P E d 14 59 [Value.ref 202, Value.ref 2, Value.int v2, Value.int v3, Value.int v4, Value.int v5] [] (mj_hw w c hi hl) = mj_den mj_P E d 14 33 [Value.ref 202, Value.ref 2, Value.int v2, Value.int v3, Value.int v4, Value.int (v5 + (1 : Int32))] [] (mj_hw w c hi hl) := by
  rw [mj_den_eq, f14_59]
  exact zt_iinc rfl (Nat.le_of_ble_eq_true rfl) rfl rfl (zt_goto rfl)
set_option maxRecDepth 100000 in
theorem f14_65 : mj_find (mj_P 14).2.2.2.2 65 = [(.iconst (-1), 1, (-1), []), (.ireturn, 1, 0, [0])] := rfl
set_option maxRecDepth 100000 in
theorem q14_65 (E : mj_E) (d w c : Nat) (hi : Nat → Nat → Int32) (hl : Nat → Nat → Int64) (v2 : Int32) (v3 : Int32) (v4 : Int32) (v5 : Int32) : mj_den mj_P E d 14 65 [Value.ref 202, Value.ref 2, Value.int v2, Value.int v3, Value.int v4, Value.int v5] [] (mj_hw w c hi hl) = some (some (Value.int (-1 : Int32)), (mj_hw w c hi hl)) := by
  rw [mj_den_eq, f14_65]
  exact zt_iconst rfl (zt_ireturn0)
set_option maxRecDepth 100000 in
theorem f15_0 : mj_find (mj_P 15).2.2.2.2 0 = [(.iload_n 2, 1, 0, []), (.bipush 10, 2, 10, []), (.aload_n 1, 1, 0, []), (.arraylength, 1, 0, []), (.invokestatic 30, 3, 0, [1, 296, 0, 2, 1, 1214, 728, 157, 729])] := rfl
set_option maxRecDepth 100000 in
theorem q15_0 (E : mj_E) (d w c : Nat) (hi : Nat → Nat → Int32) (hl : Nat → Nat → Int64) (v2 : Int32) : mj_den mj_P E d 15 0 [Value.ref 202, Value.ref 3, Value.int v2, Value.float 0] [] (mj_hw w c hi hl) = mj_bi (mj_dc mj_P E d 296 [Value.int (10 : Int32), Value.int (Int32.ofNat 10)] (mj_hw w c hi hl)) (fun x1 h1 => mj_den mj_P E d 15 8 [Value.ref 202, Value.ref 3, Value.int v2, Value.float 0] [Value.int x1, Value.int v2] h1) := by
  rw [mj_den_eq, f15_0]
  exact zt_iload_n rfl rfl (zt_bipush rfl (zt_aload_n rfl rfl (zt_alen (q := 100) (mjkd3 _ _ _ _) (by decide) (mjln3 _ _ _ _) rfl (zt_call1_1 (Nat.le_of_ble_eq_true rfl) rfl (Nat.le_of_ble_eq_true rfl) rfl rfl))))
set_option maxRecDepth 100000 in
theorem f15_8 : mj_find (mj_P 15).2.2.2.2 8 = [(.invokestatic 30, 3, 0, [1, 296, 0, 2, 1, 1214, 728, 157, 729])] := rfl
set_option maxRecDepth 100000 in
theorem q15_8 (E : mj_E) (d w c : Nat) (hi : Nat → Nat → Int32) (hl : Nat → Nat → Int64) (v2 : Int32) (s0 : Int32) (s1 : Int32) : mj_den mj_P E d 15 8 [Value.ref 202, Value.ref 3, Value.int v2, Value.float 0] [Value.int s0, Value.int s1] (mj_hw w c hi hl) = mj_bi (mj_dc mj_P E d 296 [Value.int s1, Value.int s0] (mj_hw w c hi hl)) (fun x1 h1 => mj_den mj_P E d 15 11 [Value.ref 202, Value.ref 3, Value.int v2, Value.float 0] [Value.int x1] h1) := by
  rw [mj_den_eq, f15_8]
  exact zt_call1_1 (Nat.le_of_ble_eq_true rfl) rfl (Nat.le_of_ble_eq_true rfl) rfl rfl
set_option maxRecDepth 100000 in
theorem f15_11 : mj_find (mj_P 15).2.2.2.2 11 = [(.istore_n 3, 1, 0, []), (.iload_n 3, 1, 0, []), (.iconst 1, 1, 1, []), (.if_icmp .ge 5, 3, 0, [19]), (.iconst (-1), 1, (-1), []), (.ireturn, 1, 0, [0])] := rfl
set_option maxRecDepth 100000 in
theorem q15_11 (E : mj_E) (d w c : Nat) (hi : Nat → Nat → Int32) (hl : Nat → Nat → Int64) (v2 : Int32) (s0 : Int32) : mj_den mj_P E d 15 11 [Value.ref 202, Value.ref 3, Value.int v2, Value.float 0] [Value.int s0] (mj_hw w c hi hl) = if (1 : Int32) ≤ s0 then mj_den mj_P E d 15 19 [Value.ref 202, Value.ref 3, Value.int v2, Value.int s0] [] (mj_hw w c hi hl) else some (some (Value.int (-1 : Int32)), (mj_hw w c hi hl)) := by
  rw [mj_den_eq, f15_11]
  exact zt_istore_n (Nat.le_of_ble_eq_true rfl) rfl rfl (zt_iload_n rfl rfl (zt_iconst rfl (zt_icmp_ge rfl rfl (zt_iconst rfl (zt_ireturn0)))))
set_option maxRecDepth 100000 in
theorem f15_19 : mj_find (mj_P 15).2.2.2.2 19 = [(.aload_n 0, 1, 0, []), (.getfield 15, 3, 0, [1, 1, 3, 634]), (.aload_n 1, 1, 0, []), (.iload_n 3, 1, 0, []), (.invokestatic 84, 3, 0, [6, 150, 0, 3, 0, 1359, 1318, 143, 1319])] := rfl
set_option maxRecDepth 100000 in
theorem q15_19 (E : mj_E) (d w c : Nat) (hi : Nat → Nat → Int32) (hl : Nat → Nat → Int64) (v2 : Int32) (v3 : Int32) : mj_den mj_P E d 15 19 [Value.ref 202, Value.ref 3, Value.int v2, Value.int v3] [] (mj_hw w c hi hl) = mj_bv (mj_dc mj_P E d 150 [Value.ref 204, Value.ref 3, Value.int v3] (mj_hw w c hi hl)) (fun h1 => mj_den mj_P E d 15 28 [Value.ref 202, Value.ref 3, Value.int v2, Value.int v3] [] h1) := by
  rw [mj_den_eq, f15_19]
  exact zt_aload_n rfl rfl (zt_getr (mjkd202 _ _ _ _) (mjhr202_1 w c) rfl (zt_aload_n rfl rfl (zt_iload_n rfl rfl (zt_call6_0 (Nat.le_of_ble_eq_true rfl) rfl (Nat.le_of_ble_eq_true rfl) rfl rfl))))
set_option maxRecDepth 100000 in
theorem f15_28 : mj_find (mj_P 15).2.2.2.2 28 = [(.aload_n 0, 1, 0, []), (.getfield 15, 3, 0, [1, 1, 3, 634]), (.iload_n 3, 1, 0, []), (.iconst 1, 1, 1, []), (.isub, 1, 0, []), (.iconst 2, 1, 2, []), (.idiv, 1, 0, []), (.iaload, 1, 0, []), (.ireturn, 1, 0, [0])] := rfl
set_option maxRecDepth 100000 in
theorem q15_28 (E : mj_E) (d w c : Nat) (hi : Nat → Nat → Int32) (hl : Nat → Nat → Int64) (v2 : Int32) (v3 : Int32) : mj_den mj_P E d 15 28 [Value.ref 202, Value.ref 3, Value.int v2, Value.int v3] [] (mj_hw w c hi hl) = if (2 : Int32) = 0 then none else if 0 ≤ ((v3 - (1 : Int32)) / (2 : Int32)) ∧ (((v3 - (1 : Int32)) / (2 : Int32))).toNatClampNeg < 10 then some (some (Value.int (hi 204 ((((v3 - (1 : Int32)) / (2 : Int32))).toNatClampNeg))), (mj_hw w c hi hl)) else none := by
  rw [mj_den_eq, f15_28]
  exact zt_aload_n rfl rfl (zt_getr (mjkd202 _ _ _ _) (mjhr202_1 w c) rfl (zt_iload_n rfl rfl (zt_iconst rfl (zt_isub rfl (zt_iconst rfl (zt_idiv  rfl (zt_iald (mjkd204 _ _ _ _) (mjln204 _ _ _ _) rfl rfl (zt_ireturn0))))))))
set_option maxRecDepth 100000 in
theorem f17_0 : mj_find (mj_P 17).2.2.2.2 0 = [(.aload_n 0, 1, 0, []), (.getfield 15, 3, 0, [2, 1, 0, 284]), (.sipush 400, 3, 400, []), (.if_icmp .ge 33, 3, 0, [40]), (.aload_n 0, 1, 0, []), (.getfield 31, 3, 0, [2, 6, 3, 294]), (.aload_n 0, 1, 0, []), (.getfield 15, 3, 0, [2, 1, 0, 284]), (.iload_n 1, 1, 0, []), (.iastore, 1, 0, []), (.aload_n 0, 1, 0, []), (.getfield 34, 3, 0, [2, 7, 3, 295]), (.aload_n 0, 1, 0, []), (.getfield 15, 3, 0, [2, 1, 0, 284]), (.iload_n 2, 1, 0, []), (.iastore, 1, 0, []), (.aload_n 0, 1, 0, []), (.dup, 1, 0, []), (.getfield 15, 3, 0, [2, 1, 0, 284]), (.iconst 1, 1, 1, []), (.iadd, 1, 0, []), (.putfield 15, 3, 0, [2, 1, 0, 284])] := rfl
set_option maxRecDepth 100000 in
theorem q17_0 (E : mj_E) (d w c : Nat) (hi : Nat → Nat → Int32) (hl : Nat → Nat → Int64) (v1 : Int32) (v2 : Int32) : mj_den mj_P E d 17 0 [Value.ref 160, Value.int v1, Value.int v2] [] (mj_hw w c hi hl) = if (400 : Int32) ≤ (hi 160 1) then mj_den mj_P E d 17 40 [Value.ref 160, Value.int v1, Value.int v2] [] (mj_hw w c hi hl) else if 0 ≤ (hi 160 1) ∧ ((hi 160 1)).toNatClampNeg < 400 then if 0 ≤ (hi 160 1) ∧ ((hi 160 1)).toNatClampNeg < 400 then mj_den mj_P E d 17 40 [Value.ref 160, Value.int v1, Value.int v2] [] (mj_hw w c (mj_u (mj_u (mj_u hi 165 (((hi 160 1)).toNatClampNeg) v1) 166 (((hi 160 1)).toNatClampNeg) v2) 160 1 ((hi 160 1) + (1 : Int32))) hl) else none else none := by
  rw [mj_den_eq, f17_0]
  exact zt_aload_n rfl rfl (zt_geti (mjkd160 _ _ _ _) rfl rfl (zt_sipush rfl (zt_icmp_ge rfl rfl (zt_aload_n rfl rfl (zt_getr (mjkd160 _ _ _ _) (mjhr160_6 w c) rfl (zt_aload_n rfl rfl (zt_geti (mjkd160 _ _ _ _) rfl rfl (zt_iload_n rfl rfl (zt_iast (mjkd165 _ _ _ _) (mjln165 _ _ _ _) rfl rfl (zt_aload_n rfl rfl (zt_getr (mjkd160 _ _ _ _) (mjhr160_7 w c) rfl (zt_aload_n rfl rfl (zt_geti (mjkd160 _ _ _ _) rfl rfl (zt_iload_n rfl rfl (zt_iast (mjkd166 _ _ _ _) (mjln166 _ _ _ _) rfl rfl (zt_aload_n rfl rfl (zt_dupr rfl (zt_geti (mjkd160 _ _ _ _) rfl rfl (zt_iconst rfl (zt_iadd rfl (zt_puti (mjkd160 _ _ _ _) rfl rfl (zt_end rfl))))))))))))))))))))))
set_option maxRecDepth 100000 in
theorem f17_40 : mj_find (mj_P 17).2.2.2.2 40 = [(.return_, 1, 0, [])] := rfl
set_option maxRecDepth 100000 in
theorem q17_40 (E : mj_E) (d w c : Nat) (hi : Nat → Nat → Int32) (hl : Nat → Nat → Int64) (v1 : Int32) (v2 : Int32) : mj_den mj_P E d 17 40 [Value.ref 160, Value.int v1, Value.int v2] [] (mj_hw w c hi hl) = some (none, (mj_hw w c hi hl)) := by
  rw [mj_den_eq, f17_40]
  exact zt_return
set_option maxRecDepth 100000 in
theorem f18_0 : mj_find (mj_P 18).2.2.2.2 0 = [(.aload_n 1, 1, 0, []), (.iload_n 3, 1, 0, []), (.invokevirtual 43, 3, 0, [0, 70, 7, 1, 1, 764, 705, 706, 145, 707])] := rfl
set_option maxRecDepth 100000 in
theorem q18_0 (E : mj_E) (d w c : Nat) (hi : Nat → Nat → Int32) (hl : Nat → Nat → Int64) (v2 : Int32) (v3 : Int32) (v4 : Int32) (v5 : Int32) (v6 : Int32) (v7 : Int32) : mj_den mj_P E d 18 0 [Value.ref 13, Value.ref 2, Value.int v2, Value.int v3, Value.int v4, Value.int v5, Value.int v6, Value.int v7] [] (mj_hw w c hi hl) = mj_bi (mj_dc mj_P E d 70 [Value.ref 2, Value.int v3] (mj_hw w c hi hl)) (fun x1 h1 => mj_den mj_P E d 18 5 [Value.ref 13, Value.ref 2, Value.int v2, Value.int v3, Value.int v4, Value.int v5, Value.int v6, Value.int v7] [Value.int x1] h1) := by
  rw [mj_den_eq, f18_0]
  exact zt_aload_n rfl rfl (zt_iload_n rfl rfl (zt_call0_1 rfl (mjkd2 _ _ _ _) (Nat.le_of_ble_eq_true rfl) rfl rfl))
set_option maxRecDepth 100000 in
theorem q18_0_1 (E : mj_E) (d w c : Nat) (hi : Nat → Nat → Int32) (hl : Nat → Nat → Int64) (v2 : Int32) (v3 : Int32) (v4 : Int32) (v5 : Int32) (v6 : Int32) (v7 : Int32) : mj_den mj_P E d 18 0 [Value.ref 13, Value.ref 177, Value.int v2, Value.int v3, Value.int v4, Value.int v5, Value.int v6, Value.int v7] [] (mj_hw w c hi hl) = mj_bi (mj_dc mj_P E d 70 [Value.ref 177, Value.int v3] (mj_hw w c hi hl)) (fun x1 h1 => mj_den mj_P E d 18 5 [Value.ref 13, Value.ref 177, Value.int v2, Value.int v3, Value.int v4, Value.int v5, Value.int v6, Value.int v7] [Value.int x1] h1) := by
  rw [mj_den_eq, f18_0]
  exact zt_aload_n rfl rfl (zt_iload_n rfl rfl (zt_call0_1 rfl (mjkd177 _ _ _ _) (Nat.le_of_ble_eq_true rfl) rfl rfl))
set_option maxRecDepth 100000 in
theorem f18_5 : mj_find (mj_P 18).2.2.2.2 5 = [(.ifCond .eq 20, 3, 0, [25]), (.aload_n 1, 1, 0, []), (.iload 4, 2, 0, []), (.invokevirtual 49, 3, 0, [0, 71, 7, 1, 1, 765, 709, 710, 145, 711])] := rfl
set_option maxRecDepth 100000 in
theorem q18_5 (E : mj_E) (d w c : Nat) (hi : Nat → Nat → Int32) (hl : Nat → Nat → Int64) (v2 : Int32) (v3 : Int32) (v4 : Int32) (v5 : Int32) (v6 : Int32) (v7 : Int32) (s0 : Int32) : mj_den mj_P E d 18 5 [Value.ref 13, Value.ref 2, Value.int v2, Value.int v3, Value.int v4, Value.int v5, Value.int v6, Value.int v7] [Value.int s0] (mj_hw w c hi hl) = if s0 = 0 then mj_den mj_P E d 18 25 [Value.ref 13, Value.ref 2, Value.int v2, Value.int v3, Value.int v4, Value.int v5, Value.int v6, Value.int v7] [] (mj_hw w c hi hl) else mj_bi (mj_dc mj_P E d 71 [Value.ref 2, Value.int v4] (mj_hw w c hi hl)) (fun x1 h1 => mj_den mj_P E d 18 14 [Value.ref 13, Value.ref 2, Value.int v2, Value.int v3, Value.int v4, Value.int v5, Value.int v6, Value.int v7] [Value.int x1] h1) := by
  rw [mj_den_eq, f18_5]
  exact zt_if_eq rfl rfl (zt_aload_n rfl rfl (zt_iload rfl rfl (zt_call0_1 rfl (mjkd2 _ _ _ _) (Nat.le_of_ble_eq_true rfl) rfl rfl)))
set_option maxRecDepth 100000 in
theorem q18_5_1 (E : mj_E) (d w c : Nat) (hi : Nat → Nat → Int32) (hl : Nat → Nat → Int64) (v2 : Int32) (v3 : Int32) (v4 : Int32) (v5 : Int32) (v6 : Int32) (v7 : Int32) (s0 : Int32) : mj_den mj_P E d 18 5 [Value.ref 13, Value.ref 177, Value.int v2, Value.int v3, Value.int v4, Value.int v5, Value.int v6, Value.int v7] [Value.int s0] (mj_hw w c hi hl) = if s0 = 0 then mj_den mj_P E d 18 25 [Value.ref 13, Value.ref 177, Value.int v2, Value.int v3, Value.int v4, Value.int v5, Value.int v6, Value.int v7] [] (mj_hw w c hi hl) else mj_bi (mj_dc mj_P E d 71 [Value.ref 177, Value.int v4] (mj_hw w c hi hl)) (fun x1 h1 => mj_den mj_P E d 18 14 [Value.ref 13, Value.ref 177, Value.int v2, Value.int v3, Value.int v4, Value.int v5, Value.int v6, Value.int v7] [Value.int x1] h1) := by
  rw [mj_den_eq, f18_5]
  exact zt_if_eq rfl rfl (zt_aload_n rfl rfl (zt_iload rfl rfl (zt_call0_1 rfl (mjkd177 _ _ _ _) (Nat.le_of_ble_eq_true rfl) rfl rfl)))
set_option maxRecDepth 100000 in
theorem f18_14 : mj_find (mj_P 18).2.2.2.2 14 = [(.ifCond .eq 11, 3, 0, [25]), (.iload_n 2, 1, 0, []), (.iconst 2, 1, 2, []), (.invokestatic 52, 3, 0, [6, 147, 0, 2, 1, 766, 684, 143, 685])] := rfl
set_option maxRecDepth 100000 in
theorem q18_14 (E : mj_E) (d w c : Nat) (hi : Nat → Nat → Int32) (hl : Nat → Nat → Int64) (v2 : Int32) (v3 : Int32) (v4 : Int32) (v5 : Int32) (v6 : Int32) (v7 : Int32) (s0 : Int32) : mj_den mj_P E d 18 14 [Value.ref 13, Value.ref 2, Value.int v2, Value.int v3, Value.int v4, Value.int v5, Value.int v6, Value.int v7] [Value.int s0] (mj_hw w c hi hl) = if s0 = 0 then mj_den mj_P E d 18 25 [Value.ref 13, Value.ref 2, Value.int v2, Value.int v3, Value.int v4, Value.int v5, Value.int v6, Value.int v7] [] (mj_hw w c hi hl) else mj_bi (mj_dc mj_P E d 147 [Value.int v2, Value.int (2 : Int32)] (mj_hw w c hi hl)) (fun x1 h1 => mj_den mj_P E d 18 22 [Value.ref 13, Value.ref 2, Value.int v2, Value.int v3, Value.int v4, Value.int v5, Value.int v6, Value.int v7] [Value.int x1] h1) := by
  rw [mj_den_eq, f18_14]
  exact zt_if_eq rfl rfl (zt_iload_n rfl rfl (zt_iconst rfl (zt_call6_1 (Nat.le_of_ble_eq_true rfl) rfl (Nat.le_of_ble_eq_true rfl) rfl rfl)))
set_option maxRecDepth 100000 in
theorem q18_14_1 (E : mj_E) (d w c : Nat) (hi : Nat → Nat → Int32) (hl : Nat → Nat → Int64) (v2 : Int32) (v3 : Int32) (v4 : Int32) (v5 : Int32) (v6 : Int32) (v7 : Int32) (s0 : Int32) : mj_den mj_P E d 18 14 [Value.ref 13, Value.ref 177, Value.int v2, Value.int v3, Value.int v4, Value.int v5, Value.int v6, Value.int v7] [Value.int s0] (mj_hw w c hi hl) = if s0 = 0 then mj_den mj_P E d 18 25 [Value.ref 13, Value.ref 177, Value.int v2, Value.int v3, Value.int v4, Value.int v5, Value.int v6, Value.int v7] [] (mj_hw w c hi hl) else mj_bi (mj_dc mj_P E d 147 [Value.int v2, Value.int (2 : Int32)] (mj_hw w c hi hl)) (fun x1 h1 => mj_den mj_P E d 18 22 [Value.ref 13, Value.ref 177, Value.int v2, Value.int v3, Value.int v4, Value.int v5, Value.int v6, Value.int v7] [Value.int x1] h1) := by
  rw [mj_den_eq, f18_14]
  exact zt_if_eq rfl rfl (zt_iload_n rfl rfl (zt_iconst rfl (zt_call6_1 (Nat.le_of_ble_eq_true rfl) rfl (Nat.le_of_ble_eq_true rfl) rfl rfl)))
set_option maxRecDepth 100000 in
theorem f18_22 : mj_find (mj_P 18).2.2.2.2 22 = [(.ifCond .ne 5, 3, 0, [27])] := rfl
set_option maxRecDepth 100000 in
theorem q18_22 (E : mj_E) (d w c : Nat) (hi : Nat → Nat → Int32) (hl : Nat → Nat → Int64) (v2 : Int32) (v3 : Int32) (v4 : Int32) (v5 : Int32) (v6 : Int32) (v7 : Int32) (s0 : Int32) : mj_den mj_P E d 18 22 [Value.ref 13, Value.ref 2, Value.int v2, Value.int v3, Value.int v4, Value.int v5, Value.int v6, Value.int v7] [Value.int s0] (mj_hw w c hi hl) = if ¬ s0 = 0 then mj_den mj_P E d 18 27 [Value.ref 13, Value.ref 2, Value.int v2, Value.int v3, Value.int v4, Value.int v5, Value.int v6, Value.int v7] [] (mj_hw w c hi hl) else mj_den mj_P E d 18 25 [Value.ref 13, Value.ref 2, Value.int v2, Value.int v3, Value.int v4, Value.int v5, Value.int v6, Value.int v7] [] (mj_hw w c hi hl) := by
  rw [mj_den_eq, f18_22]
  exact zt_if_ne rfl rfl (zt_end rfl)
set_option maxRecDepth 100000 in
theorem q18_22_1 (E : mj_E) (d w c : Nat) (hi : Nat → Nat → Int32) (hl : Nat → Nat → Int64) (v2 : Int32) (v3 : Int32) (v4 : Int32) (v5 : Int32) (v6 : Int32) (v7 : Int32) (s0 : Int32) : mj_den mj_P E d 18 22 [Value.ref 13, Value.ref 177, Value.int v2, Value.int v3, Value.int v4, Value.int v5, Value.int v6, Value.int v7] [Value.int s0] (mj_hw w c hi hl) = if ¬ s0 = 0 then mj_den mj_P E d 18 27 [Value.ref 13, Value.ref 177, Value.int v2, Value.int v3, Value.int v4, Value.int v5, Value.int v6, Value.int v7] [] (mj_hw w c hi hl) else mj_den mj_P E d 18 25 [Value.ref 13, Value.ref 177, Value.int v2, Value.int v3, Value.int v4, Value.int v5, Value.int v6, Value.int v7] [] (mj_hw w c hi hl) := by
  rw [mj_den_eq, f18_22]
  exact zt_if_ne rfl rfl (zt_end rfl)
set_option maxRecDepth 100000 in
theorem f18_25 : mj_find (mj_P 18).2.2.2.2 25 = [(.iconst 0, 1, 0, []), (.ireturn, 1, 0, [0])] := rfl
set_option maxRecDepth 100000 in
theorem q18_25 (E : mj_E) (d w c : Nat) (hi : Nat → Nat → Int32) (hl : Nat → Nat → Int64) (v2 : Int32) (v3 : Int32) (v4 : Int32) (v5 : Int32) (v6 : Int32) (v7 : Int32) : mj_den mj_P E d 18 25 [Value.ref 13, Value.ref 2, Value.int v2, Value.int v3, Value.int v4, Value.int v5, Value.int v6, Value.int v7] [] (mj_hw w c hi hl) = some (some (Value.int (0 : Int32)), (mj_hw w c hi hl)) := by
  rw [mj_den_eq, f18_25]
  exact zt_iconst rfl (zt_ireturn0)
set_option maxRecDepth 100000 in
theorem q18_25_1 (E : mj_E) (d w c : Nat) (hi : Nat → Nat → Int32) (hl : Nat → Nat → Int64) (v2 : Int32) (v3 : Int32) (v4 : Int32) (v5 : Int32) (v6 : Int32) (v7 : Int32) : mj_den mj_P E d 18 25 [Value.ref 13, Value.ref 177, Value.int v2, Value.int v3, Value.int v4, Value.int v5, Value.int v6, Value.int v7] [] (mj_hw w c hi hl) = some (some (Value.int (0 : Int32)), (mj_hw w c hi hl)) := by
  rw [mj_den_eq, f18_25]
  exact zt_iconst rfl (zt_ireturn0)
set_option maxRecDepth 100000 in
theorem f18_27 : mj_find (mj_P 18).2.2.2.2 27 = [(.aload_n 0, 1, 0, []), (.getfield 37, 3, 0, [2, 8, 3, 296]), (.iconst 0, 1, 0, []), (.aload_n 1, 1, 0, []), (.getfield 56, 3, 0, [7, 7, 3, 207]), (.iload_n 3, 1, 0, []), (.iaload, 1, 0, []), (.iastore, 1, 0, []), (.aload_n 0, 1, 0, []), (.getfield 37, 3, 0, [2, 8, 3, 296]), (.iconst 1, 1, 1, []), (.aload_n 1, 1, 0, []), (.getfield 59, 3, 0, [7, 8, 3, 211]), (.iload_n 3, 1, 0, []), (.iaload, 1, 0, []), (.iastore, 1, 0, []), (.aload_n 0, 1, 0, []), (.getfield 37, 3, 0, [2, 8, 3, 296]), (.iconst 2, 1, 2, []), (.aload_n 1, 1, 0, []), (.getfield 62, 3, 0, [7, 10, 3, 217]), (.iload_n 3, 1, 0, []), (.iaload, 1, 0, []), (.iastore, 1, 0, []), (.aload_n 0, 1, 0, []), (.getfield 37, 3, 0, [2, 8, 3, 296]), (.iconst 3, 1, 3, []), (.aload_n 1, 1, 0, []), (.getfield 65, 3, 0, [7, 12, 3, 222]), (.iload_n 3, 1, 0, []), (.iaload, 1, 0, []), (.iastore, 1, 0, []), (.aload_n 0, 1, 0, []), (.getfield 37, 3, 0, [2, 8, 3, 296]), (.iconst 4, 1, 4, []), (.aload_n 1, 1, 0, []), (.getfield 68, 3, 0, [7, 14, 3, 230]), (.iload 4, 2, 0, []), (.iaload, 1, 0, []), (.iastore, 1, 0, []), (.aload_n 0, 1, 0, []), (.getfield 37, 3, 0, [2, 8, 3, 296]), (.iconst 5, 1, 5, []), (.aload_n 1, 1, 0, []), (.getfield 71, 3, 0, [7, 15, 3, 233]), (.iload 4, 2, 0, []), (.iaload, 1, 0, []), (.iastore, 1, 0, []), (.aload_n 0, 1, 0, []), (.getfield 37, 3, 0, [2, 8, 3, 296]), (.bipush 6, 2, 6, []), (.iload 5, 2, 0, []), (.iastore, 1, 0, []), (.aload_n 0, 1, 0, []), (.getfield 37, 3, 0, [2, 8, 3, 296]), (.bipush 7, 2, 7, []), (.iload 6, 2, 0, []), (.iastore, 1, 0, []), (.aload_n 0, 1, 0, []), (.getfield 37, 3, 0, [2, 8, 3, 296]), (.bipush 8, 2, 8, []), (.aload_n 1, 1, 0, []), (.getfield 74, 3, 0, [7, 2, 0, 192]), (.iastore, 1, 0, []), (.aload_n 0, 1, 0, []), (.getfield 37, 3, 0, [2, 8, 3, 296]), (.bipush 9, 2, 9, []), (.iload 7, 2, 0, []), (.iastore, 1, 0, []), (.iconst 0, 1, 0, []), (.getstatic 77, 3, 0, [1, 767, 1]), (.iload_n 2, 1, 0, []), (.iaload, 1, 0, []), (.aload_n 0, 1, 0, []), (.iload_n 2, 1, 0, []), (.invokevirtual 80, 3, 0, [0, 19, 2, 1, 1, 769, 771, 1, 146, 772])] := rfl
set_option maxRecDepth 100000 in
theorem q18_27 (E : mj_E) (d w c : Nat) (hi : Nat → Nat → Int32) (hl : Nat → Nat → Int64) (v2 : Int32) (v3 : Int32) (v4 : Int32) (v5 : Int32) (v6 : Int32) (v7 : Int32) : mj_den mj_P E d 18 27 [Value.ref 13, Value.ref 2, Value.int v2, Value.int v3, Value.int v4, Value.int v5, Value.int v6, Value.int v7] [] (mj_hw w c hi hl) = if 0 ≤ v3 ∧ (v3).toNatClampNeg < 10 then if 0 ≤ (0 : Int32) ∧ ((0 : Int32)).toNatClampNeg < 10 then if 0 ≤ v3 ∧ (v3).toNatClampNeg < 10 then if 0 ≤ (1 : Int32) ∧ ((1 : Int32)).toNatClampNeg < 10 then if 0 ≤ v3 ∧ (v3).toNatClampNeg < 10 then if 0 ≤ (2 : Int32) ∧ ((2 : Int32)).toNatClampNeg < 10 then if 0 ≤ v3 ∧ (v3).toNatClampNeg < 10 then if 0 ≤ (3 : Int32) ∧ ((3 : Int32)).toNatClampNeg < 10 then if 0 ≤ v4 ∧ (v4).toNatClampNeg < 12 then if 0 ≤ (4 : Int32) ∧ ((4 : Int32)).toNatClampNeg < 10 then if 0 ≤ v4 ∧ (v4).toNatClampNeg < 12 then if 0 ≤ (5 : Int32) ∧ ((5 : Int32)).toNatClampNeg < 10 then if 0 ≤ (6 : Int32) ∧ ((6 : Int32)).toNatClampNeg < 10 then if 0 ≤ (7 : Int32) ∧ ((7 : Int32)).toNatClampNeg < 10 then if 0 ≤ (8 : Int32) ∧ ((8 : Int32)).toNatClampNeg < 10 then if 0 ≤ (9 : Int32) ∧ ((9 : Int32)).toNatClampNeg < 10 then if (E 2).1 ≤ 65536 then (if 0 ≤ v2 ∧ (v2).toNatClampNeg < (E 2).1 then mj_bi (mj_dc mj_P E d 19 [Value.ref 13, Value.int v2] (mj_hw w c (mj_u (mj_u (mj_u (mj_u (mj_u (mj_u (mj_u (mj_u (mj_u (mj_u hi 20 (((0 : Int32)).toNatClampNeg) (hi 3 ((v3).toNatClampNeg))) 20 (((1 : Int32)).toNatClampNeg) (hi 4 ((v3).toNatClampNeg))) 20 (((2 : Int32)).toNatClampNeg) (hi 6 ((v3).toNatClampNeg))) 20 (((3 : Int32)).toNatClampNeg) (hi 8 ((v3).toNatClampNeg))) 20 (((4 : Int32)).toNatClampNeg) (hi 10 ((v4).toNatClampNeg))) 20 (((5 : Int32)).toNatClampNeg) (hi 11 ((v4).toNatClampNeg))) 20 (((6 : Int32)).toNatClampNeg) v5) 20 (((7 : Int32)).toNatClampNeg) v6) 20 (((8 : Int32)).toNatClampNeg) (hi 2 2)) 20 (((9 : Int32)).toNatClampNeg) v7) hl)) (fun x1 h1 => mj_den mj_P E d 18 150 [Value.ref 13, Value.ref 2, Value.int v2, Value.int v3, Value.int v4, Value.int v5, Value.int v6, Value.int v7] [Value.int x1, Value.int ((E 2).2 (v2).toNatClampNeg), Value.int (0 : Int32)] h1) else none) else none else none else none else none else none else none else none else none else none else none else none else none else none else none else none else none else none := by
  rw [mj_den_eq, f18_27]
  exact zt_aload_n rfl rfl (zt_getr (mjkd13 _ _ _ _) (mjhr13_8 w c) rfl (zt_iconst rfl (zt_aload_n rfl rfl (zt_getr (mjkd2 _ _ _ _) (mjhr2_7 w c) rfl (zt_iload_n rfl rfl (zt_iald (mjkd3 _ _ _ _) (mjln3 _ _ _ _) rfl rfl (zt_iast (mjkd20 _ _ _ _) (mjln20 _ _ _ _) rfl rfl (zt_aload_n rfl rfl (zt_getr (mjkd13 _ _ _ _) (mjhr13_8 w c) rfl (zt_iconst rfl (zt_aload_n rfl rfl (zt_getr (mjkd2 _ _ _ _) (mjhr2_8 w c) rfl (zt_iload_n rfl rfl (zt_iald (mjkd4 _ _ _ _) (mjln4 _ _ _ _) rfl rfl (zt_iast (mjkd20 _ _ _ _) (mjln20 _ _ _ _) rfl rfl (zt_aload_n rfl rfl (zt_getr (mjkd13 _ _ _ _) (mjhr13_8 w c) rfl (zt_iconst rfl (zt_aload_n rfl rfl (zt_getr (mjkd2 _ _ _ _) (mjhr2_10 w c) rfl (zt_iload_n rfl rfl (zt_iald (mjkd6 _ _ _ _) (mjln6 _ _ _ _) rfl rfl (zt_iast (mjkd20 _ _ _ _) (mjln20 _ _ _ _) rfl rfl (zt_aload_n rfl rfl (zt_getr (mjkd13 _ _ _ _) (mjhr13_8 w c) rfl (zt_iconst rfl (zt_aload_n rfl rfl (zt_getr (mjkd2 _ _ _ _) (mjhr2_12 w c) rfl (zt_iload_n rfl rfl (zt_iald (mjkd8 _ _ _ _) (mjln8 _ _ _ _) rfl rfl (zt_iast (mjkd20 _ _ _ _) (mjln20 _ _ _ _) rfl rfl (zt_aload_n rfl rfl (zt_getr (mjkd13 _ _ _ _) (mjhr13_8 w c) rfl (zt_iconst rfl (zt_aload_n rfl rfl (zt_getr (mjkd2 _ _ _ _) (mjhr2_14 w c) rfl (zt_iload rfl rfl (zt_iald (mjkd10 _ _ _ _) (mjln10 _ _ _ _) rfl rfl (zt_iast (mjkd20 _ _ _ _) (mjln20 _ _ _ _) rfl rfl (zt_aload_n rfl rfl (zt_getr (mjkd13 _ _ _ _) (mjhr13_8 w c) rfl (zt_iconst rfl (zt_aload_n rfl rfl (zt_getr (mjkd2 _ _ _ _) (mjhr2_15 w c) rfl (zt_iload rfl rfl (zt_iald (mjkd11 _ _ _ _) (mjln11 _ _ _ _) rfl rfl (zt_iast (mjkd20 _ _ _ _) (mjln20 _ _ _ _) rfl rfl (zt_aload_n rfl rfl (zt_getr (mjkd13 _ _ _ _) (mjhr13_8 w c) rfl (zt_bipush rfl (zt_iload rfl rfl (zt_iast (mjkd20 _ _ _ _) (mjln20 _ _ _ _) rfl rfl (zt_aload_n rfl rfl (zt_getr (mjkd13 _ _ _ _) (mjhr13_8 w c) rfl (zt_bipush rfl (zt_iload rfl rfl (zt_iast (mjkd20 _ _ _ _) (mjln20 _ _ _ _) rfl rfl (zt_aload_n rfl rfl (zt_getr (mjkd13 _ _ _ _) (mjhr13_8 w c) rfl (zt_bipush rfl (zt_aload_n rfl rfl (zt_geti (mjkd2 _ _ _ _) rfl rfl (zt_iast (mjkd20 _ _ _ _) (mjln20 _ _ _ _) rfl rfl (zt_aload_n rfl rfl (zt_getr (mjkd13 _ _ _ _) (mjhr13_8 w c) rfl (zt_bipush rfl (zt_iload rfl rfl (zt_iast (mjkd20 _ _ _ _) (mjln20 _ _ _ _) rfl rfl (zt_iconst rfl (zt_getstatic1 rfl (zt_iload_n rfl rfl (zt_ialc (Nat.le_of_ble_eq_true rfl) rfl (zt_aload_n rfl rfl (zt_iload_n rfl rfl (zt_call0_1 rfl (mjkd13 _ _ _ _) (Nat.le_of_ble_eq_true rfl) rfl rfl)))))))))))))))))))))))))))))))))))))))))))))))))))))))))))))))))))))))))))
set_option maxRecDepth 100000 in
theorem q18_27_1 (E : mj_E) (d w c : Nat) (hi : Nat → Nat → Int32) (hl : Nat → Nat → Int64) (v2 : Int32) (v3 : Int32) (v4 : Int32) (v5 : Int32) (v6 : Int32) (v7 : Int32) : mj_den mj_P E d 18 27 [Value.ref 13, Value.ref 177, Value.int v2, Value.int v3, Value.int v4, Value.int v5, Value.int v6, Value.int v7] [] (mj_hw w c hi hl) = if 0 ≤ v3 ∧ (v3).toNatClampNeg < 10 then if 0 ≤ (0 : Int32) ∧ ((0 : Int32)).toNatClampNeg < 10 then if 0 ≤ v3 ∧ (v3).toNatClampNeg < 10 then if 0 ≤ (1 : Int32) ∧ ((1 : Int32)).toNatClampNeg < 10 then if 0 ≤ v3 ∧ (v3).toNatClampNeg < 10 then if 0 ≤ (2 : Int32) ∧ ((2 : Int32)).toNatClampNeg < 10 then if 0 ≤ v3 ∧ (v3).toNatClampNeg < 10 then if 0 ≤ (3 : Int32) ∧ ((3 : Int32)).toNatClampNeg < 10 then if 0 ≤ v4 ∧ (v4).toNatClampNeg < 12 then if 0 ≤ (4 : Int32) ∧ ((4 : Int32)).toNatClampNeg < 10 then if 0 ≤ v4 ∧ (v4).toNatClampNeg < 12 then if 0 ≤ (5 : Int32) ∧ ((5 : Int32)).toNatClampNeg < 10 then if 0 ≤ (6 : Int32) ∧ ((6 : Int32)).toNatClampNeg < 10 then if 0 ≤ (7 : Int32) ∧ ((7 : Int32)).toNatClampNeg < 10 then if 0 ≤ (8 : Int32) ∧ ((8 : Int32)).toNatClampNeg < 10 then if 0 ≤ (9 : Int32) ∧ ((9 : Int32)).toNatClampNeg < 10 then if (E 2).1 ≤ 65536 then (if 0 ≤ v2 ∧ (v2).toNatClampNeg < (E 2).1 then mj_bi (mj_dc mj_P E d 19 [Value.ref 13, Value.int v2] (mj_hw w c (mj_u (mj_u (mj_u (mj_u (mj_u (mj_u (mj_u (mj_u (mj_u (mj_u hi 20 (((0 : Int32)).toNatClampNeg) (hi 178 ((v3).toNatClampNeg))) 20 (((1 : Int32)).toNatClampNeg) (hi 179 ((v3).toNatClampNeg))) 20 (((2 : Int32)).toNatClampNeg) (hi 181 ((v3).toNatClampNeg))) 20 (((3 : Int32)).toNatClampNeg) (hi 183 ((v3).toNatClampNeg))) 20 (((4 : Int32)).toNatClampNeg) (hi 185 ((v4).toNatClampNeg))) 20 (((5 : Int32)).toNatClampNeg) (hi 186 ((v4).toNatClampNeg))) 20 (((6 : Int32)).toNatClampNeg) v5) 20 (((7 : Int32)).toNatClampNeg) v6) 20 (((8 : Int32)).toNatClampNeg) (hi 177 2)) 20 (((9 : Int32)).toNatClampNeg) v7) hl)) (fun x1 h1 => mj_den mj_P E d 18 150 [Value.ref 13, Value.ref 177, Value.int v2, Value.int v3, Value.int v4, Value.int v5, Value.int v6, Value.int v7] [Value.int x1, Value.int ((E 2).2 (v2).toNatClampNeg), Value.int (0 : Int32)] h1) else none) else none else none else none else none else none else none else none else none else none else none else none else none else none else none else none else none else none := by
  rw [mj_den_eq, f18_27]
  exact zt_aload_n rfl rfl (zt_getr (mjkd13 _ _ _ _) (mjhr13_8 w c) rfl (zt_iconst rfl (zt_aload_n rfl rfl (zt_getr (mjkd177 _ _ _ _) (mjhr177_7 w c) rfl (zt_iload_n rfl rfl (zt_iald (mjkd178 _ _ _ _) (mjln178 _ _ _ _) rfl rfl (zt_iast (mjkd20 _ _ _ _) (mjln20 _ _ _ _) rfl rfl (zt_aload_n rfl rfl (zt_getr (mjkd13 _ _ _ _) (mjhr13_8 w c) rfl (zt_iconst rfl (zt_aload_n rfl rfl (zt_getr (mjkd177 _ _ _ _) (mjhr177_8 w c) rfl (zt_iload_n rfl rfl (zt_iald (mjkd179 _ _ _ _) (mjln179 _ _ _ _) rfl rfl (zt_iast (mjkd20 _ _ _ _) (mjln20 _ _ _ _) rfl rfl (zt_aload_n rfl rfl (zt_getr (mjkd13 _ _ _ _) (mjhr13_8 w c) rfl (zt_iconst rfl (zt_aload_n rfl rfl (zt_getr (mjkd177 _ _ _ _) (mjhr177_10 w c) rfl (zt_iload_n rfl rfl (zt_iald (mjkd181 _ _ _ _) (mjln181 _ _ _ _) rfl rfl (zt_iast (mjkd20 _ _ _ _) (mjln20 _ _ _ _) rfl rfl (zt_aload_n rfl rfl (zt_getr (mjkd13 _ _ _ _) (mjhr13_8 w c) rfl (zt_iconst rfl (zt_aload_n rfl rfl (zt_getr (mjkd177 _ _ _ _) (mjhr177_12 w c) rfl (zt_iload_n rfl rfl (zt_iald (mjkd183 _ _ _ _) (mjln183 _ _ _ _) rfl rfl (zt_iast (mjkd20 _ _ _ _) (mjln20 _ _ _ _) rfl rfl (zt_aload_n rfl rfl (zt_getr (mjkd13 _ _ _ _) (mjhr13_8 w c) rfl (zt_iconst rfl (zt_aload_n rfl rfl (zt_getr (mjkd177 _ _ _ _) (mjhr177_14 w c) rfl (zt_iload rfl rfl (zt_iald (mjkd185 _ _ _ _) (mjln185 _ _ _ _) rfl rfl (zt_iast (mjkd20 _ _ _ _) (mjln20 _ _ _ _) rfl rfl (zt_aload_n rfl rfl (zt_getr (mjkd13 _ _ _ _) (mjhr13_8 w c) rfl (zt_iconst rfl (zt_aload_n rfl rfl (zt_getr (mjkd177 _ _ _ _) (mjhr177_15 w c) rfl (zt_iload rfl rfl (zt_iald (mjkd186 _ _ _ _) (mjln186 _ _ _ _) rfl rfl (zt_iast (mjkd20 _ _ _ _) (mjln20 _ _ _ _) rfl rfl (zt_aload_n rfl rfl (zt_getr (mjkd13 _ _ _ _) (mjhr13_8 w c) rfl (zt_bipush rfl (zt_iload rfl rfl (zt_iast (mjkd20 _ _ _ _) (mjln20 _ _ _ _) rfl rfl (zt_aload_n rfl rfl (zt_getr (mjkd13 _ _ _ _) (mjhr13_8 w c) rfl (zt_bipush rfl (zt_iload rfl rfl (zt_iast (mjkd20 _ _ _ _) (mjln20 _ _ _ _) rfl rfl (zt_aload_n rfl rfl (zt_getr (mjkd13 _ _ _ _) (mjhr13_8 w c) rfl (zt_bipush rfl (zt_aload_n rfl rfl (zt_geti (mjkd177 _ _ _ _) rfl rfl (zt_iast (mjkd20 _ _ _ _) (mjln20 _ _ _ _) rfl rfl (zt_aload_n rfl rfl (zt_getr (mjkd13 _ _ _ _) (mjhr13_8 w c) rfl (zt_bipush rfl (zt_iload rfl rfl (zt_iast (mjkd20 _ _ _ _) (mjln20 _ _ _ _) rfl rfl (zt_iconst rfl (zt_getstatic1 rfl (zt_iload_n rfl rfl (zt_ialc (Nat.le_of_ble_eq_true rfl) rfl (zt_aload_n rfl rfl (zt_iload_n rfl rfl (zt_call0_1 rfl (mjkd13 _ _ _ _) (Nat.le_of_ble_eq_true rfl) rfl rfl)))))))))))))))))))))))))))))))))))))))))))))))))))))))))))))))))))))))))))
set_option maxRecDepth 100000 in
theorem f18_150 : mj_find (mj_P 18).2.2.2.2 150 = [(.invokestatic 84, 3, 0, [1, 296, 0, 2, 1, 780, 728, 157, 729])] := rfl
set_option maxRecDepth 100000 in
theorem q18_150 (E : mj_E) (d w c : Nat) (hi : Nat → Nat → Int32) (hl : Nat → Nat → Int64) (v2 : Int32) (v3 : Int32) (v4 : Int32) (v5 : Int32) (v6 : Int32) (v7 : Int32) (s0 : Int32) (s1 : Int32) (s2 : Int32) : mj_den mj_P E d 18 150 [Value.ref 13, Value.ref 2, Value.int v2, Value.int v3, Value.int v4, Value.int v5, Value.int v6, Value.int v7] [Value.int s0, Value.int s1, Value.int s2] (mj_hw w c hi hl) = mj_bi (mj_dc mj_P E d 296 [Value.int s1, Value.int s0] (mj_hw w c hi hl)) (fun x1 h1 => mj_den mj_P E d 18 153 [Value.ref 13, Value.ref 2, Value.int v2, Value.int v3, Value.int v4, Value.int v5, Value.int v6, Value.int v7] [Value.int x1, Value.int s2] h1) := by
  rw [mj_den_eq, f18_150]
  exact zt_call1_1 (Nat.le_of_ble_eq_true rfl) rfl (Nat.le_of_ble_eq_true rfl) rfl rfl
set_option maxRecDepth 100000 in
theorem q18_150_1 (E : mj_E) (d w c : Nat) (hi : Nat → Nat → Int32) (hl : Nat → Nat → Int64) (v2 : Int32) (v3 : Int32) (v4 : Int32) (v5 : Int32) (v6 : Int32) (v7 : Int32) (s0 : Int32) (s1 : Int32) (s2 : Int32) : mj_den mj_P E d 18 150 [Value.ref 13, Value.ref 177, Value.int v2, Value.int v3, Value.int v4, Value.int v5, Value.int v6, Value.int v7] [Value.int s0, Value.int s1, Value.int s2] (mj_hw w c hi hl) = mj_bi (mj_dc mj_P E d 296 [Value.int s1, Value.int s0] (mj_hw w c hi hl)) (fun x1 h1 => mj_den mj_P E d 18 153 [Value.ref 13, Value.ref 177, Value.int v2, Value.int v3, Value.int v4, Value.int v5, Value.int v6, Value.int v7] [Value.int x1, Value.int s2] h1) := by
  rw [mj_den_eq, f18_150]
  exact zt_call1_1 (Nat.le_of_ble_eq_true rfl) rfl (Nat.le_of_ble_eq_true rfl) rfl rfl
set_option maxRecDepth 100000 in
theorem f18_153 : mj_find (mj_P 18).2.2.2.2 153 = [(.invokestatic 90, 3, 0, [1, 295, 0, 2, 1, 781, 782, 157, 783])] := rfl
set_option maxRecDepth 100000 in
theorem q18_153 (E : mj_E) (d w c : Nat) (hi : Nat → Nat → Int32) (hl : Nat → Nat → Int64) (v2 : Int32) (v3 : Int32) (v4 : Int32) (v5 : Int32) (v6 : Int32) (v7 : Int32) (s0 : Int32) (s1 : Int32) : mj_den mj_P E d 18 153 [Value.ref 13, Value.ref 2, Value.int v2, Value.int v3, Value.int v4, Value.int v5, Value.int v6, Value.int v7] [Value.int s0, Value.int s1] (mj_hw w c hi hl) = mj_bi (mj_dc mj_P E d 295 [Value.int s1, Value.int s0] (mj_hw w c hi hl)) (fun x1 h1 => mj_den mj_P E d 18 156 [Value.ref 13, Value.ref 2, Value.int v2, Value.int v3, Value.int v4, Value.int v5, Value.int v6, Value.int v7] [Value.int x1] h1) := by
  rw [mj_den_eq, f18_153]
  exact zt_call1_1 (Nat.le_of_ble_eq_true rfl) rfl (Nat.le_of_ble_eq_true rfl) rfl rfl
set_option maxRecDepth 100000 in
theorem q18_153_1 (E : mj_E) (d w c : Nat) (hi : Nat → Nat → Int32) (hl : Nat → Nat → Int64) (v2 : Int32) (v3 : Int32) (v4 : Int32) (v5 : Int32) (v6 : Int32) (v7 : Int32) (s0 : Int32) (s1 : Int32) : mj_den mj_P E d 18 153 [Value.ref 13, Value.ref 177, Value.int v2, Value.int v3, Value.int v4, Value.int v5, Value.int v6, Value.int v7] [Value.int s0, Value.int s1] (mj_hw w c hi hl) = mj_bi (mj_dc mj_P E d 295 [Value.int s1, Value.int s0] (mj_hw w c hi hl)) (fun x1 h1 => mj_den mj_P E d 18 156 [Value.ref 13, Value.ref 177, Value.int v2, Value.int v3, Value.int v4, Value.int v5, Value.int v6, Value.int v7] [Value.int x1] h1) := by
  rw [mj_den_eq, f18_153]
  exact zt_call1_1 (Nat.le_of_ble_eq_true rfl) rfl (Nat.le_of_ble_eq_true rfl) rfl rfl
set_option maxRecDepth 100000 in
theorem f18_156 : mj_find (mj_P 18).2.2.2.2 156 = [(.ireturn, 1, 0, [0])] := rfl
set_option maxRecDepth 100000 in
theorem q18_156 (E : mj_E) (d w c : Nat) (hi : Nat → Nat → Int32) (hl : Nat → Nat → Int64) (v2 : Int32) (v3 : Int32) (v4 : Int32) (v5 : Int32) (v6 : Int32) (v7 : Int32) (s0 : Int32) : mj_den mj_P E d 18 156 [Value.ref 13, Value.ref 2, Value.int v2, Value.int v3, Value.int v4, Value.int v5, Value.int v6, Value.int v7] [Value.int s0] (mj_hw w c hi hl) = some (some (Value.int s0), (mj_hw w c hi hl)) := by
  rw [mj_den_eq, f18_156]
  exact zt_ireturn0
set_option maxRecDepth 100000 in
theorem q18_156_1 (E : mj_E) (d w c : Nat) (hi : Nat → Nat → Int32) (hl : Nat → Nat → Int64) (v2 : Int32) (v3 : Int32) (v4 : Int32) (v5 : Int32) (v6 : Int32) (v7 : Int32) (s0 : Int32) : mj_den mj_P E d 18 156 [Value.ref 13, Value.ref 177, Value.int v2, Value.int v3, Value.int v4, Value.int v5, Value.int v6, Value.int v7] [Value.int s0] (mj_hw w c hi hl) = some (some (Value.int s0), (mj_hw w c hi hl)) := by
  rw [mj_den_eq, f18_156]
  exact zt_ireturn0
set_option maxRecDepth 100000 in
theorem f19_0 : mj_find (mj_P 19).2.2.2.2 0 = [(.iconst 0, 1, 0, []), (.istore_n 2, 1, 0, [])] := rfl
set_option maxRecDepth 100000 in
theorem q19_0 (E : mj_E) (d w c : Nat) (hi : Nat → Nat → Int32) (hl : Nat → Nat → Int64) (v1 : Int32) : mj_den mj_P E d 19 0 [Value.ref 13, Value.int v1, Value.float 0] [] (mj_hw w c hi hl) = mj_den mj_P E d 19 2 [Value.ref 13, Value.int v1, Value.int (0 : Int32)] [] (mj_hw w c hi hl) := by
  rw [mj_den_eq, f19_0]
  exact zt_iconst rfl (zt_istore_n (Nat.le_of_ble_eq_true rfl) rfl rfl (zt_end rfl))
set_option maxRecDepth 100000 in
theorem f19_2 : mj_find (mj_P 19).2.2.2.2 2 = [(.iload_n 2, 1, 0, []), (.aload_n 0, 1, 0, []), (.getfield 9, 3, 0, [2, 0, 0, 281]), (.if_icmp .ge 76, 3, 0, [83]), (.iload_n 2, 1, 0, []), (.bipush 16, 2, 16, []), (.if_icmp .ge 70, 3, 0, [83]), (.aload_n 0, 1, 0, []), (.getfield 18, 3, 0, [2, 2, 3, 286]), (.iload_n 2, 1, 0, []), (.iaload, 1, 0, []), (.iload_n 1, 1, 0, []), (.if_icmp .ne 54, 3, 0, [77]), (.aload_n 0, 1, 0, []), (.getfield 25, 3, 0, [2, 4, 3, 290]), (.iload_n 2, 1, 0, []), (.iaload, 1, 0, []), (.aload_n 0, 1, 0, []), (.getfield 28, 3, 0, [2, 5, 3, 292]), (.iload_n 2, 1, 0, []), (.iaload, 1, 0, []), (.if_icmp .eq 22, 3, 0, [60]), (.aload_n 0, 1, 0, []), (.aload_n 0, 1, 0, []), (.getfield 25, 3, 0, [2, 4, 3, 290]), (.iload_n 2, 1, 0, []), (.iaload, 1, 0, []), (.aload_n 0, 1, 0, []), (.getfield 28, 3, 0, [2, 5, 3, 292]), (.iload_n 2, 1, 0, []), (.iaload, 1, 0, []), (.invokevirtual 93, 3, 0, [0, 20, 2, 2, 1, 773, 775, 2, 146, 776])] := rfl
set_option maxRecDepth 100000 in
theorem q19_2 (E : mj_E) (d w c : Nat) (hi : Nat → Nat → Int32) (hl : Nat → Nat → Int64) (v1 : Int32) (v2 : Int32) : mj_den mj_P E d 19 2 [Value.ref 13, Value.int v1, Value.int v2] [] (mj_hw w c hi hl) = if (hi 13 0) ≤ v2 then mj_den mj_P E d 19 83 [Value.ref 13, Value.int v1, Value.int v2] [] (mj_hw w c hi hl) else if (16 : Int32) ≤ v2 then mj_den mj_P E d 19 83 [Value.ref 13, Value.int v1, Value.int v2] [] (mj_hw w c hi hl) else if 0 ≤ v2 ∧ (v2).toNatClampNeg < 16 then if ¬ (hi 14 ((v2).toNatClampNeg)) = v1 then mj_den mj_P E d 19 77 [Value.ref 13, Value.int v1, Value.int v2] [] (mj_hw w c hi hl) else if 0 ≤ v2 ∧ (v2).toNatClampNeg < 16 then if 0 ≤ v2 ∧ (v2).toNatClampNeg < 16 then if (hi 16 ((v2).toNatClampNeg)) = (hi 17 ((v2).toNatClampNeg)) then mj_den mj_P E d 19 60 [Value.ref 13, Value.int v1, Value.int v2] [] (mj_hw w c hi hl) else if 0 ≤ v2 ∧ (v2).toNatClampNeg < 16 then if 0 ≤ v2 ∧ (v2).toNatClampNeg < 16 then mj_bi (mj_dc mj_P E d 20 [Value.ref 13, Value.int (hi 16 ((v2).toNatClampNeg)), Value.int (hi 17 ((v2).toNatClampNeg))] (mj_hw w c hi hl)) (fun x1 h1 => mj_den mj_P E d 19 57 [Value.ref 13, Value.int v1, Value.int v2] [Value.int x1] h1) else none else none else none else none else none := by
  rw [mj_den_eq, f19_2]
  exact zt_iload_n rfl rfl (zt_aload_n rfl rfl (zt_geti (mjkd13 _ _ _ _) rfl rfl (zt_icmp_ge rfl rfl (zt_iload_n rfl rfl (zt_bipush rfl (zt_icmp_ge rfl rfl (zt_aload_n rfl rfl (zt_getr (mjkd13 _ _ _ _) (mjhr13_2 w c) rfl (zt_iload_n rfl rfl (zt_iald (mjkd14 _ _ _ _) (mjln14 _ _ _ _) rfl rfl (zt_iload_n rfl rfl (zt_icmp_ne rfl rfl (zt_aload_n rfl rfl (zt_getr (mjkd13 _ _ _ _) (mjhr13_4 w c) rfl (zt_iload_n rfl rfl (zt_iald (mjkd16 _ _ _ _) (mjln16 _ _ _ _) rfl rfl (zt_aload_n rfl rfl (zt_getr (mjkd13 _ _ _ _) (mjhr13_5 w c) rfl (zt_iload_n rfl rfl (zt_iald (mjkd17 _ _ _ _) (mjln17 _ _ _ _) rfl rfl (zt_icmp_eq rfl rfl (zt_aload_n rfl rfl (zt_aload_n rfl rfl (zt_getr (mjkd13 _ _ _ _) (mjhr13_4 w c) rfl (zt_iload_n rfl rfl (zt_iald (mjkd16 _ _ _ _) (mjln16 _ _ _ _) rfl rfl (zt_aload_n rfl rfl (zt_getr (mjkd13 _ _ _ _) (mjhr13_5 w c) rfl (zt_iload_n rfl rfl (zt_iald (mjkd17 _ _ _ _) (mjln17 _ _ _ _) rfl rfl (zt_call0_1 rfl (mjkd13 _ _ _ _) (Nat.le_of_ble_eq_true rfl) rfl rfl)))))))))))))))))))))))))))))))
set_option maxRecDepth 100000 in
theorem f19_57 : mj_find (mj_P 19).2.2.2.2 57 = [(.ifCond .eq 20, 3, 0, [77])] := rfl
set_option maxRecDepth 100000 in
theorem q19_57 (E : mj_E) (d w c : Nat) (hi : Nat → Nat → Int32) (hl : Nat → Nat → Int64) (v1 : Int32) (v2 : Int32) (s0 : Int32) : mj_den mj_P E d 19 57 [Value.ref 13, Value.int v1, Value.int v2] [Value.int s0] (mj_hw w c hi hl) = if s0 = 0 then mj_den mj_P E d 19 77 [Value.ref 13, Value.int v1, Value.int v2] [] (mj_hw w c hi hl) else mj_den mj_P E d 19 60 [Value.ref 13, Value.int v1, Value.int v2] [] (mj_hw w c hi hl) := by
  rw [mj_den_eq, f19_57]
  exact zt_if_eq rfl rfl (zt_end rfl)
set_option maxRecDepth 100000 in
theorem f19_60 : mj_find (mj_P 19).2.2.2.2 60 = [(.aload_n 0, 1, 0, []), (.aload_n 0, 1, 0, []), (.getfield 22, 3, 0, [2, 3, 3, 288]), (.iload_n 2, 1, 0, []), (.iaload, 1, 0, []), (.aload_n 0, 1, 0, []), (.getfield 25, 3, 0, [2, 4, 3, 290]), (.iload_n 2, 1, 0, []), (.iaload, 1, 0, []), (.invokevirtual 93, 3, 0, [0, 20, 2, 2, 1, 773, 775, 2, 146, 776])] := rfl
set_option maxRecDepth 100000 in
theorem q19_60 (E : mj_E) (d w c : Nat) (hi : Nat → Nat → Int32) (hl : Nat → Nat → Int64) (v1 : Int32) (v2 : Int32) : mj_den mj_P E d 19 60 [Value.ref 13, Value.int v1, Value.int v2] [] (mj_hw w c hi hl) = if 0 ≤ v2 ∧ (v2).toNatClampNeg < 16 then if 0 ≤ v2 ∧ (v2).toNatClampNeg < 16 then mj_bi (mj_dc mj_P E d 20 [Value.ref 13, Value.int (hi 15 ((v2).toNatClampNeg)), Value.int (hi 16 ((v2).toNatClampNeg))] (mj_hw w c hi hl)) (fun x1 h1 => mj_den mj_P E d 19 76 [Value.ref 13, Value.int v1, Value.int v2] [Value.int x1] h1) else none else none := by
  rw [mj_den_eq, f19_60]
  exact zt_aload_n rfl rfl (zt_aload_n rfl rfl (zt_getr (mjkd13 _ _ _ _) (mjhr13_3 w c) rfl (zt_iload_n rfl rfl (zt_iald (mjkd15 _ _ _ _) (mjln15 _ _ _ _) rfl rfl (zt_aload_n rfl rfl (zt_getr (mjkd13 _ _ _ _) (mjhr13_4 w c) rfl (zt_iload_n rfl rfl (zt_iald (mjkd16 _ _ _ _) (mjln16 _ _ _ _) rfl rfl (zt_call0_1 rfl (mjkd13 _ _ _ _) (Nat.le_of_ble_eq_true rfl) rfl rfl)))))))))
set_option maxRecDepth 100000 in
theorem f19_76 : mj_find (mj_P 19).2.2.2.2 76 = [(.ireturn, 1, 0, [0])] := rfl
set_option maxRecDepth 100000 in
theorem q19_76 (E : mj_E) (d w c : Nat) (hi : Nat → Nat → Int32) (hl : Nat → Nat → Int64) (v1 : Int32) (v2 : Int32) (s0 : Int32) : mj_den mj_P E d 19 76 [Value.ref 13, Value.int v1, Value.int v2] [Value.int s0] (mj_hw w c hi hl) = some (some (Value.int s0), (mj_hw w c hi hl)) := by
  rw [mj_den_eq, f19_76]
  exact zt_ireturn0
set_option maxRecDepth 100000 in
theorem f19_77 : mj_find (mj_P 19).2.2.2.2 77 = [(.iinc 2 1, 3, 1, []), (.goto (-78), 3, 0, [2])] := rfl
set_option maxRecDepth 100000 in
theorem q19_77 (E : mj_E) (d w c : Nat) (hi : Nat → Nat → Int32) (hl : Nat → Nat → Int64) (v1 : Int32) (v2 : Int32) : mj_den mj_P E d 19 77 [Value.ref 13, Value.int v1, Value.int v2] [] (mj_hw w c hi hl) = mj_den mj_P E d 19 2 [Value.ref 13, Value.int v1, Value.int (v2 + (1 : Int32))] [] (mj_hw w c hi hl) := by
  rw [mj_den_eq, f19_77]
  exact zt_iinc rfl (Nat.le_of_ble_eq_true rfl) rfl rfl (zt_goto rfl)
set_option maxRecDepth 100000 in
theorem f19_83 : mj_find (mj_P 19).2.2.2.2 83 = [(.iload_n 1, 1, 0, []), (.ifCond .ne 16, 3, 0, [100]), (.sipush 300, 3, 300, []), (.iconst 3, 1, 3, []), (.aload_n 0, 1, 0, []), (.getfield 37, 3, 0, [2, 8, 3, 296]), (.iconst 0, 1, 0, []), (.iaload, 1, 0, []), (.imul, 1, 0, []), (.isub, 1, 0, []), (.ireturn, 1, 0, [0])] := rfl
set_option maxRecDepth 100000 in
theorem q19_83 (E : mj_E) (d w c : Nat) (hi : Nat → Nat → Int32) (hl : Nat → Nat → Int64) (v1 : Int32) (v2 : Int32) : mj_den mj_P E d 19 83 [Value.ref 13, Value.int v1, Value.int v2] [] (mj_hw w c hi hl) = if ¬ v1 = 0 then mj_den mj_P E d 19 100 [Value.ref 13, Value.int v1, Value.int v2] [] (mj_hw w c hi hl) else if 0 ≤ (0 : Int32) ∧ ((0 : Int32)).toNatClampNeg < 10 then some (some (Value.int ((300 : Int32) - ((3 : Int32) * (hi 20 (((0 : Int32)).toNatClampNeg))))), (mj_hw w c hi hl)) else none := by
  rw [mj_den_eq, f19_83]
  exact zt_iload_n rfl rfl (zt_if_ne rfl rfl (zt_sipush rfl (zt_iconst rfl (zt_aload_n rfl rfl (zt_getr (mjkd13 _ _ _ _) (mjhr13_8 w c) rfl (zt_iconst rfl (zt_iald (mjkd20 _ _ _ _) (mjln20 _ _ _ _) rfl rfl (zt_imul rfl (zt_isub rfl (zt_ireturn0))))))))))
set_option maxRecDepth 100000 in
theorem f19_100 : mj_find (mj_P 19).2.2.2.2 100 = [(.iload_n 1, 1, 0, []), (.iconst 1, 1, 1, []), (.if_icmp .ne 14, 3, 0, [116]), (.aload_n 0, 1, 0, []), (.getfield 37, 3, 0, [2, 8, 3, 296]), (.iconst 5, 1, 5, []), (.iaload, 1, 0, []), (.iconst 2, 1, 2, []), (.idiv, 1, 0, []), (.goto 4, 3, 0, [117])] := rfl
set_option maxRecDepth 100000 in
theorem q19_100 (E : mj_E) (d w c : Nat) (hi : Nat → Nat → Int32) (hl : Nat → Nat → Int64) (v1 : Int32) (v2 : Int32) : mj_den mj_P E d 19 100 [Value.ref 13, Value.int v1, Value.int v2] [] (mj_hw w c hi hl) = if ¬ v1 = (1 : Int32) then mj_den mj_P E d 19 116 [Value.ref 13, Value.int v1, Value.int v2] [] (mj_hw w c hi hl) else if 0 ≤ (5 : Int32) ∧ ((5 : Int32)).toNatClampNeg < 10 then if (2 : Int32) = 0 then none else mj_den mj_P E d 19 117 [Value.ref 13, Value.int v1, Value.int v2] [Value.int ((hi 20 (((5 : Int32)).toNatClampNeg)) / (2 : Int32))] (mj_hw w c hi hl) else none := by
  rw [mj_den_eq, f19_100]
  exact zt_iload_n rfl rfl (zt_iconst rfl (zt_icmp_ne rfl rfl (zt_aload_n rfl rfl (zt_getr (mjkd13 _ _ _ _) (mjhr13_8 w c) rfl (zt_iconst rfl (zt_iald (mjkd20 _ _ _ _) (mjln20 _ _ _ _) rfl rfl (zt_iconst rfl (zt_idiv  rfl (zt_goto rfl)))))))))
set_option maxRecDepth 100000 in
theorem f19_116 : mj_find (mj_P 19).2.2.2.2 116 = [(.iconst 5, 1, 5, [])] := rfl
set_option maxRecDepth 100000 in
theorem q19_116 (E : mj_E) (d w c : Nat) (hi : Nat → Nat → Int32) (hl : Nat → Nat → Int64) (v1 : Int32) (v2 : Int32) : mj_den mj_P E d 19 116 [Value.ref 13, Value.int v1, Value.int v2] [] (mj_hw w c hi hl) = mj_den mj_P E d 19 117 [Value.ref 13, Value.int v1, Value.int v2] [Value.int (5 : Int32)] (mj_hw w c hi hl) := by
  rw [mj_den_eq, f19_116]
  exact zt_iconst rfl (zt_end rfl)
set_option maxRecDepth 100000 in
theorem f19_117 : mj_find (mj_P 19).2.2.2.2 117 = [(.ireturn, 1, 0, [0])] := rfl
set_option maxRecDepth 100000 in
theorem q19_117 (E : mj_E) (d w c : Nat) (hi : Nat → Nat → Int32) (hl : Nat → Nat → Int64) (v1 : Int32) (v2 : Int32) (s0 : Int32) : mj_den mj_P E d 19 117 [Value.ref 13, Value.int v1, Value.int v2] [Value.int s0] (mj_hw w c hi hl) = some (some (Value.int s0), (mj_hw w c hi hl)) := by
  rw [mj_den_eq, f19_117]
  exact zt_ireturn0
set_option maxRecDepth 100000 in
theorem f20_0 : mj_find (mj_P 20).2.2.2.2 0 = [(.iconst 0, 1, 0, []), (.istore_n 3, 1, 0, []), (.iload_n 1, 1, 0, []), (.istore 4, 2, 0, [])] := rfl
set_option maxRecDepth 100000 in
theorem q20_0 (E : mj_E) (d w c : Nat) (hi : Nat → Nat → Int32) (hl : Nat → Nat → Int64) (v1 : Int32) (v2 : Int32) : mj_den mj_P E d 20 0 [Value.ref 13, Value.int v1, Value.int v2, Value.float 0, Value.float 0, Value.float 0] [] (mj_hw w c hi hl) = mj_den mj_P E d 20 5 [Value.ref 13, Value.int v1, Value.int v2, Value.int (0 : Int32), Value.int v1, Value.float 0] [] (mj_hw w c hi hl) := by
  rw [mj_den_eq, f20_0]
  exact zt_iconst rfl (zt_istore_n (Nat.le_of_ble_eq_true rfl) rfl rfl (zt_iload_n rfl rfl (zt_istore (Nat.le_of_ble_eq_true rfl) rfl rfl (zt_end rfl))))
set_option maxRecDepth 100000 in
theorem f20_5 : mj_find (mj_P 20).2.2.2.2 5 = [(.iload 4, 2, 0, []), (.ifCond .lt 201, 3, 0, [208]), (.iload 4, 2, 0, []), (.iload_n 2, 1, 0, []), (.if_icmp .ge 195, 3, 0, [208]), (.iload 4, 2, 0, []), (.sipush 400, 3, 400, []), (.if_icmp .ge 187, 3, 0, [208]), (.aload_n 0, 1, 0, []), (.getfield 31, 3, 0, [2, 6, 3, 294]), (.iload 4, 2, 0, []), (.iaload, 1, 0, []), (.istore 5, 2, 0, []), (.iload 5, 2, 0, []), (.ifCond .lt 52, 3, 0, [87]), (.iload 5, 2, 0, []), (.bipush 10, 2, 10, []), (.if_icmp .gt 45, 3, 0, [87]), (.iload_n 3, 1, 0, []), (.bipush 32, 2, 32, []), (.if_icmp .ge 154, 3, 0, [202]), (.aload_n 0, 1, 0, []), (.getfield 40, 3, 0, [2, 9, 3, 297]), (.iload_n 3, 1, 0, []), (.iload 5, 2, 0, []), (.bipush 10, 2, 10, []), (.if_icmp .ge 13, 3, 0, [73]), (.aload_n 0, 1, 0, []), (.getfield 37, 3, 0, [2, 8, 3, 296]), (.iload 5, 2, 0, []), (.iaload, 1, 0, []), (.goto 10, 3, 0, [80])] := rfl
set_option maxRecDepth 100000 in
theorem q20_5 (E : mj_E) (d w c : Nat) (hi : Nat → Nat → Int32) (hl : Nat → Nat → Int64) (v1 : Int32) (v2 : Int32) (v3 : Int32) (v4 : Int32) : mj_den mj_P E d 20 5 [Value.ref 13, Value.int v1, Value.int v2, Value.int v3, Value.int v4, Value.float 0] [] (mj_hw w c hi hl) = if v4 < 0 then mj_den mj_P E d 20 208 [Value.ref 13, Value.int v1, Value.int v2, Value.int v3, Value.int v4, Value.float 0] [] (mj_hw w c hi hl) else if v2 ≤ v4 then mj_den mj_P E d 20 208 [Value.ref 13, Value.int v1, Value.int v2, Value.int v3, Value.int v4, Value.float 0] [] (mj_hw w c hi hl) else if (400 : Int32) ≤ v4 then mj_den mj_P E d 20 208 [Value.ref 13, Value.int v1, Value.int v2, Value.int v3, Value.int v4, Value.float 0] [] (mj_hw w c hi hl) else if 0 ≤ v4 ∧ (v4).toNatClampNeg < 400 then if (hi 18 ((v4).toNatClampNeg)) < 0 then mj_den mj_P E d 20 87 [Value.ref 13, Value.int v1, Value.int v2, Value.int v3, Value.int v4, Value.int (hi 18 ((v4).toNatClampNeg))] [] (mj_hw w c hi hl) else if (10 : Int32) < (hi 18 ((v4).toNatClampNeg)) then mj_den mj_P E d 20 87 [Value.ref 13, Value.int v1, Value.int v2, Value.int v3, Value.int v4, Value.int (hi 18 ((v4).toNatClampNeg))] [] (mj_hw w c hi hl) else if (32 : Int32) ≤ v3 then mj_den mj_P E d 20 202 [Value.ref 13, Value.int v1, Value.int v2, Value.int v3, Value.int v4, Value.int (hi 18 ((v4).toNatClampNeg))] [] (mj_hw w c hi hl) else if (10 : Int32) ≤ (hi 18 ((v4).toNatClampNeg)) then mj_den mj_P E d 20 73 [Value.ref 13, Value.int v1, Value.int v2, Value.int v3, Value.int v4, Value.int (hi 18 ((v4).toNatClampNeg))] [Value.int v3, Value.ref 21] (mj_hw w c hi hl) else if 0 ≤ (hi 18 ((v4).toNatClampNeg)) ∧ ((hi 18 ((v4).toNatClampNeg))).toNatClampNeg < 10 then mj_den mj_P E d 20 80 [Value.ref 13, Value.int v1, Value.int v2, Value.int v3, Value.int v4, Value.int (hi 18 ((v4).toNatClampNeg))] [Value.int (hi 20 (((hi 18 ((v4).toNatClampNeg))).toNatClampNeg)), Value.int v3, Value.ref 21] (mj_hw w c hi hl) else none else none := by
  rw [mj_den_eq, f20_5]
  exact zt_iload rfl rfl (zt_if_lt rfl rfl (zt_iload rfl rfl (zt_iload_n rfl rfl (zt_icmp_ge rfl rfl (zt_iload rfl rfl (zt_sipush rfl (zt_icmp_ge rfl rfl (zt_aload_n rfl rfl (zt_getr (mjkd13 _ _ _ _) (mjhr13_6 w c) rfl (zt_iload rfl rfl (zt_iald (mjkd18 _ _ _ _) (mjln18 _ _ _ _) rfl rfl (zt_istore (Nat.le_of_ble_eq_true rfl) rfl rfl (zt_iload rfl rfl (zt_if_lt rfl rfl (zt_iload rfl rfl (zt_bipush rfl (zt_icmp_gt rfl rfl (zt_iload_n rfl rfl (zt_bipush rfl (zt_icmp_ge rfl rfl (zt_aload_n rfl rfl (zt_getr (mjkd13 _ _ _ _) (mjhr13_9 w c) rfl (zt_iload_n rfl rfl (zt_iload rfl rfl (zt_bipush rfl (zt_icmp_ge rfl rfl (zt_aload_n rfl rfl (zt_getr (mjkd13 _ _ _ _) (mjhr13_8 w c) rfl (zt_iload rfl rfl (zt_iald (mjkd20 _ _ _ _) (mjln20 _ _ _ _) rfl rfl (zt_goto rfl)))))))))))))))))))))))))))))))
set_option maxRecDepth 100000 in
theorem q20_5_1 (E : mj_E) (d w c : Nat) (hi : Nat → Nat → Int32) (hl : Nat → Nat → Int64) (v1 : Int32) (v2 : Int32) (v3 : Int32) (v4 : Int32) (v5 : Int32) : mj_den mj_P E d 20 5 [Value.ref 13, Value.int v1, Value.int v2, Value.int v3, Value.int v4, Value.int v5] [] (mj_hw w c hi hl) = if v4 < 0 then mj_den mj_P E d 20 208 [Value.ref 13, Value.int v1, Value.int v2, Value.int v3, Value.int v4, Value.int v5] [] (mj_hw w c hi hl) else if v2 ≤ v4 then mj_den mj_P E d 20 208 [Value.ref 13, Value.int v1, Value.int v2, Value.int v3, Value.int v4, Value.int v5] [] (mj_hw w c hi hl) else if (400 : Int32) ≤ v4 then mj_den mj_P E d 20 208 [Value.ref 13, Value.int v1, Value.int v2, Value.int v3, Value.int v4, Value.int v5] [] (mj_hw w c hi hl) else if 0 ≤ v4 ∧ (v4).toNatClampNeg < 400 then if (hi 18 ((v4).toNatClampNeg)) < 0 then mj_den mj_P E d 20 87 [Value.ref 13, Value.int v1, Value.int v2, Value.int v3, Value.int v4, Value.int (hi 18 ((v4).toNatClampNeg))] [] (mj_hw w c hi hl) else if (10 : Int32) < (hi 18 ((v4).toNatClampNeg)) then mj_den mj_P E d 20 87 [Value.ref 13, Value.int v1, Value.int v2, Value.int v3, Value.int v4, Value.int (hi 18 ((v4).toNatClampNeg))] [] (mj_hw w c hi hl) else if (32 : Int32) ≤ v3 then mj_den mj_P E d 20 202 [Value.ref 13, Value.int v1, Value.int v2, Value.int v3, Value.int v4, Value.int (hi 18 ((v4).toNatClampNeg))] [] (mj_hw w c hi hl) else if (10 : Int32) ≤ (hi 18 ((v4).toNatClampNeg)) then mj_den mj_P E d 20 73 [Value.ref 13, Value.int v1, Value.int v2, Value.int v3, Value.int v4, Value.int (hi 18 ((v4).toNatClampNeg))] [Value.int v3, Value.ref 21] (mj_hw w c hi hl) else if 0 ≤ (hi 18 ((v4).toNatClampNeg)) ∧ ((hi 18 ((v4).toNatClampNeg))).toNatClampNeg < 10 then mj_den mj_P E d 20 80 [Value.ref 13, Value.int v1, Value.int v2, Value.int v3, Value.int v4, Value.int (hi 18 ((v4).toNatClampNeg))] [Value.int (hi 20 (((hi 18 ((v4).toNatClampNeg))).toNatClampNeg)), Value.int v3, Value.ref 21] (mj_hw w c hi hl) else none else none := by
  rw [mj_den_eq, f20_5]
  exact zt_iload rfl rfl (zt_if_lt rfl rfl (zt_iload rfl rfl (zt_iload_n rfl rfl (zt_icmp_ge rfl rfl (zt_iload rfl rfl (zt_sipush rfl (zt_icmp_ge rfl rfl (zt_aload_n rfl rfl (zt_getr (mjkd13 _ _ _ _) (mjhr13_6 w c) rfl (zt_iload rfl rfl (zt_iald (mjkd18 _ _ _ _) (mjln18 _ _ _ _) rfl rfl (zt_istore (Nat.le_of_ble_eq_true rfl) rfl rfl (zt_iload rfl rfl (zt_if_lt rfl rfl (zt_iload rfl rfl (zt_bipush rfl (zt_icmp_gt rfl rfl (zt_iload_n rfl rfl (zt_bipush rfl (zt_icmp_ge rfl rfl (zt_aload_n rfl rfl (zt_getr (mjkd13 _ _ _ _) (mjhr13_9 w c) rfl (zt_iload_n rfl rfl (zt_iload rfl rfl (zt_bipush rfl (zt_icmp_ge rfl rfl (zt_aload_n rfl rfl (zt_getr (mjkd13 _ _ _ _) (mjhr13_8 w c) rfl (zt_iload rfl rfl (zt_iald (mjkd20 _ _ _ _) (mjln20 _ _ _ _) rfl rfl (zt_goto rfl)))))))))))))))))))))))))))))))
set_option maxRecDepth 100000 in
theorem f20_73 : mj_find (mj_P 20).2.2.2.2 73 = [(.aload_n 0, 1, 0, []), (.getfield 34, 3, 0, [2, 7, 3, 295]), (.iload 4, 2, 0, []), (.iaload, 1, 0, [])] := rfl
set_option maxRecDepth 100000 in
theorem q20_73 (E : mj_E) (d w c : Nat) (hi : Nat → Nat → Int32) (hl : Nat → Nat → Int64) (v1 : Int32) (v2 : Int32) (v3 : Int32) (v4 : Int32) (v5 : Int32) (s0 : Int32) : mj_den mj_P E d 20 73 [Value.ref 13, Value.int v1, Value.int v2, Value.int v3, Value.int v4, Value.int v5] [Value.int s0, Value.ref 21] (mj_hw w c hi hl) = if 0 ≤ v4 ∧ (v4).toNatClampNeg < 400 then mj_den mj_P E d 20 80 [Value.ref 13, Value.int v1, Value.int v2, Value.int v3, Value.int v4, Value.int v5] [Value.int (hi 19 ((v4).toNatClampNeg)), Value.int s0, Value.ref 21] (mj_hw w c hi hl) else none := by
  rw [mj_den_eq, f20_73]
  exact zt_aload_n rfl rfl (zt_getr (mjkd13 _ _ _ _) (mjhr13_7 w c) rfl (zt_iload rfl rfl (zt_iald (mjkd19 _ _ _ _) (mjln19 _ _ _ _) rfl rfl (zt_end rfl))))
set_option maxRecDepth 100000 in
theorem f20_80 : mj_find (mj_P 20).2.2.2.2 80 = [(.iastore, 1, 0, []), (.iinc 3 1, 3, 1, []), (.goto 118, 3, 0, [202])] := rfl
set_option maxRecDepth 100000 in
theorem q20_80 (E : mj_E) (d w c : Nat) (hi : Nat → Nat → Int32) (hl : Nat → Nat → Int64) (v1 : Int32) (v2 : Int32) (v3 : Int32) (v4 : Int32) (v5 : Int32) (s0 : Int32) (s1 : Int32) : mj_den mj_P E d 20 80 [Value.ref 13, Value.int v1, Value.int v2, Value.int v3, Value.int v4, Value.int v5] [Value.int s0, Value.int s1, Value.ref 21] (mj_hw w c hi hl) = if 0 ≤ s1 ∧ (s1).toNatClampNeg < 32 then mj_den mj_P E d 20 202 [Value.ref 13, Value.int v1, Value.int v2, Value.int (v3 + (1 : Int32)), Value.int v4, Value.int v5] [] (mj_hw w c (mj_u hi 21 ((s1).toNatClampNeg) s0) hl) else none := by
  rw [mj_den_eq, f20_80]
  exact zt_iast (mjkd21 _ _ _ _) (mjln21 _ _ _ _) rfl rfl (zt_iinc rfl (Nat.le_of_ble_eq_true rfl) rfl rfl (zt_goto rfl))
set_option maxRecDepth 100000 in
theorem f20_87 : mj_find (mj_P 20).2.2.2.2 87 = [(.iload 5, 2, 0, []), (.bipush 18, 2, 18, []), (.if_icmp .ne 28, 3, 0, [119]), (.iload_n 3, 1, 0, []), (.ifCond .le 107, 3, 0, [202]), (.aload_n 0, 1, 0, []), (.getfield 40, 3, 0, [2, 9, 3, 297]), (.iload_n 3, 1, 0, []), (.iconst 1, 1, 1, []), (.isub, 1, 0, []), (.iconst 1, 1, 1, []), (.aload_n 0, 1, 0, []), (.getfield 40, 3, 0, [2, 9, 3, 297]), (.iload_n 3, 1, 0, []), (.iconst 1, 1, 1, []), (.isub, 1, 0, []), (.iaload, 1, 0, []), (.isub, 1, 0, []), (.iastore, 1, 0, []), (.goto 86, 3, 0, [202])] := rfl
set_option maxRecDepth 100000 in
theorem q20_87 (E : mj_E) (d w c : Nat) (hi : Nat → Nat → Int32) (hl : Nat → Nat → Int64) (v1 : Int32) (v2 : Int32) (v3 : Int32) (v4 : Int32) (v5 : Int32) : mj_den mj_P E d 20 87 [Value.ref 13, Value.int v1, Value.int v2, Value.int v3, Value.int v4, Value.int v5] [] (mj_hw w c hi hl) = if ¬ v5 = (18 : Int32) then mj_den mj_P E d 20 119 [Value.ref 13, Value.int v1, Value.int v2, Value.int v3, Value.int v4, Value.int v5] [] (mj_hw w c hi hl) else if v3 ≤ 0 then mj_den mj_P E d 20 202 [Value.ref 13, Value.int v1, Value.int v2, Value.int v3, Value.int v4, Value.int v5] [] (mj_hw w c hi hl) else if 0 ≤ (v3 - (1 : Int32)) ∧ ((v3 - (1 : Int32))).toNatClampNeg < 32 then if 0 ≤ (v3 - (1 : Int32)) ∧ ((v3 - (1 : Int32))).toNatClampNeg < 32 then mj_den mj_P E d 20 202 [Value.ref 13, Value.int v1, Value.int v2, Value.int v3, Value.int v4, Value.int v5] [] (mj_hw w c (mj_u hi 21 (((v3 - (1 : Int32))).toNatClampNeg) ((1 : Int32) - (hi 21 (((v3 - (1 : Int32))).toNatClampNeg)))) hl) else none else none := by
  rw [mj_den_eq, f20_87]
  exact zt_iload rfl rfl (zt_bipush rfl (zt_icmp_ne rfl rfl (zt_iload_n rfl rfl (zt_if_le rfl rfl (zt_aload_n rfl rfl (zt_getr (mjkd13 _ _ _ _) (mjhr13_9 w c) rfl (zt_iload_n rfl rfl (zt_iconst rfl (zt_isub rfl (zt_iconst rfl (zt_aload_n rfl rfl (zt_getr (mjkd13 _ _ _ _) (mjhr13_9 w c) rfl (zt_iload_n rfl rfl (zt_iconst rfl (zt_isub rfl (zt_iald (mjkd21 _ _ _ _) (mjln21 _ _ _ _) rfl rfl (zt_isub rfl (zt_iast (mjkd21 _ _ _ _) (mjln21 _ _ _ _) rfl rfl (zt_goto rfl)))))))))))))))))))
set_option maxRecDepth 100000 in
theorem f20_119 : mj_find (mj_P 20).2.2.2.2 119 = [(.iload 5, 2, 0, []), (.bipush 14, 2, 14, []), (.if_icmp .ne 44, 3, 0, [167]), (.iload_n 3, 1, 0, []), (.ifCond .le 75, 3, 0, [202]), (.aload_n 0, 1, 0, []), (.getfield 34, 3, 0, [2, 7, 3, 295]), (.iload 4, 2, 0, []), (.iaload, 1, 0, []), (.ifCond .eq 65, 3, 0, [202]), (.aload_n 0, 1, 0, []), (.getfield 40, 3, 0, [2, 9, 3, 297]), (.iload_n 3, 1, 0, []), (.iconst 1, 1, 1, []), (.isub, 1, 0, []), (.aload_n 0, 1, 0, []), (.getfield 40, 3, 0, [2, 9, 3, 297]), (.iload_n 3, 1, 0, []), (.iconst 1, 1, 1, []), (.isub, 1, 0, []), (.iaload, 1, 0, []), (.aload_n 0, 1, 0, []), (.getfield 34, 3, 0, [2, 7, 3, 295]), (.iload 4, 2, 0, []), (.iaload, 1, 0, []), (.idiv, 1, 0, []), (.iastore, 1, 0, []), (.goto 38, 3, 0, [202])] := rfl
set_option maxRecDepth 100000 in
theorem q20_119 (E : mj_E) (d w c : Nat) (hi : Nat → Nat → Int32) (hl : Nat → Nat → Int64) (v1 : Int32) (v2 : Int32) (v3 : Int32) (v4 : Int32) (v5 : Int32) : mj_den mj_P E d 20 119 [Value.ref 13, Value.int v1, Value.int v2, Value.int v3, Value.int v4, Value.int v5] [] (mj_hw w c hi hl) = if ¬ v5 = (14 : Int32) then mj_den mj_P E d 20 167 [Value.ref 13, Value.int v1, Value.int v2, Value.int v3, Value.int v4, Value.int v5] [] (mj_hw w c hi hl) else if v3 ≤ 0 then mj_den mj_P E d 20 202 [Value.ref 13, Value.int v1, Value.int v2, Value.int v3, Value.int v4, Value.int v5] [] (mj_hw w c hi hl) else if 0 ≤ v4 ∧ (v4).toNatClampNeg < 400 then if (hi 19 ((v4).toNatClampNeg)) = 0 then mj_den mj_P E d 20 202 [Value.ref 13, Value.int v1, Value.int v2, Value.int v3, Value.int v4, Value.int v5] [] (mj_hw w c hi hl) else if 0 ≤ (v3 - (1 : Int32)) ∧ ((v3 - (1 : Int32))).toNatClampNeg < 32 then if 0 ≤ v4 ∧ (v4).toNatClampNeg < 400 then if (hi 19 ((v4).toNatClampNeg)) = 0 then none else if 0 ≤ (v3 - (1 : Int32)) ∧ ((v3 - (1 : Int32))).toNatClampNeg < 32 then mj_den mj_P E d 20 202 [Value.ref 13, Value.int v1, Value.int v2, Value.int v3, Value.int v4, Value.int v5] [] (mj_hw w c (mj_u hi 21 (((v3 - (1 : Int32))).toNatClampNeg) ((hi 21 (((v3 - (1 : Int32))).toNatClampNeg)) / (hi 19 ((v4).toNatClampNeg)))) hl) else none else none else none else none := by
  rw [mj_den_eq, f20_119]
  exact zt_iload rfl rfl (zt_bipush rfl (zt_icmp_ne rfl rfl (zt_iload_n rfl rfl (zt_if_le rfl rfl (zt_aload_n rfl rfl (zt_getr (mjkd13 _ _ _ _) (mjhr13_7 w c) rfl (zt_iload rfl rfl (zt_iald (mjkd19 _ _ _ _) (mjln19 _ _ _ _) rfl rfl (zt_if_eq rfl rfl (zt_aload_n rfl rfl (zt_getr (mjkd13 _ _ _ _) (mjhr13_9 w c) rfl (zt_iload_n rfl rfl (zt_iconst rfl (zt_isub rfl (zt_aload_n rfl rfl (zt_getr (mjkd13 _ _ _ _) (mjhr13_9 w c) rfl (zt_iload_n rfl rfl (zt_iconst rfl (zt_isub rfl (zt_iald (mjkd21 _ _ _ _) (mjln21 _ _ _ _) rfl rfl (zt_aload_n rfl rfl (zt_getr (mjkd13 _ _ _ _) (mjhr13_7 w c) rfl (zt_iload rfl rfl (zt_iald (mjkd19 _ _ _ _) (mjln19 _ _ _ _) rfl rfl (zt_idiv  rfl (zt_iast (mjkd21 _ _ _ _) (mjln21 _ _ _ _) rfl rfl (zt_goto rfl)))))))))))))))))))))))))))
set_option maxRecDepth 100000 in
theorem f20_167 : mj_find (mj_P 20).2.2.2.2 167 = [(.iload_n 3, 1, 0, []), (.iconst 1, 1, 1, []), (.if_icmp .le 33, 3, 0, [202]), (.iinc 3 (-1), 3, (-1), []), (.aload_n 0, 1, 0, []), (.getfield 40, 3, 0, [2, 9, 3, 297]), (.iload_n 3, 1, 0, []), (.iconst 1, 1, 1, []), (.isub, 1, 0, []), (.iload 5, 2, 0, []), (.aload_n 0, 1, 0, []), (.getfield 40, 3, 0, [2, 9, 3, 297]), (.iload_n 3, 1, 0, []), (.iconst 1, 1, 1, []), (.isub, 1, 0, []), (.iaload, 1, 0, []), (.aload_n 0, 1, 0, []), (.getfield 40, 3, 0, [2, 9, 3, 297]), (.iload_n 3, 1, 0, []), (.iaload, 1, 0, []), (.invokestatic 96, 3, 0, [1, 21, 0, 3, 1, 777, 778, 146, 779])] := rfl
set_option maxRecDepth 100000 in
theorem q20_167 (E : mj_E) (d w c : Nat) (hi : Nat → Nat → Int32) (hl : Nat → Nat → Int64) (v1 : Int32) (v2 : Int32) (v3 : Int32) (v4 : Int32) (v5 : Int32) : mj_den mj_P E d 20 167 [Value.ref 13, Value.int v1, Value.int v2, Value.int v3, Value.int v4, Value.int v5] [] (mj_hw w c hi hl) = if v3 ≤ (1 : Int32) then mj_den mj_P E d 20 202 [Value.ref 13, Value.int v1, Value.int v2, Value.int v3, Value.int v4, Value.int v5] [] (mj_hw w c hi hl) else if 0 ≤ ((v3 + (-1 : Int32)) - (1 : Int32)) ∧ (((v3 + (-1 : Int32)) - (1 : Int32))).toNatClampNeg < 32 then if 0 ≤ (v3 + (-1 : Int32)) ∧ ((v3 + (-1 : Int32))).toNatClampNeg < 32 then mj_bi (mj_dc mj_P E d 21 [Value.int v5, Value.int (hi 21 ((((v3 + (-1 : Int32)) - (1 : Int32))).toNatClampNeg)), Value.int (hi 21 (((v3 + (-1 : Int32))).toNatClampNeg))] (mj_hw w c hi hl)) (fun x1 h1 => mj_den mj_P E d 20 201 [Value.ref 13, Value.int v1, Value.int v2, Value.int (v3 + (-1 : Int32)), Value.int v4, Value.int v5] [Value.int x1, Value.int ((v3 + (-1 : Int32)) - (1 : Int32)), Value.ref 21] h1) else none else none := by
  rw [mj_den_eq, f20_167]
  exact zt_iload_n rfl rfl (zt_iconst rfl (zt_icmp_le rfl rfl (zt_iinc rfl (Nat.le_of_ble_eq_true rfl) rfl rfl (zt_aload_n rfl rfl (zt_getr (mjkd13 _ _ _ _) (mjhr13_9 w c) rfl (zt_iload_n rfl rfl (zt_iconst rfl (zt_isub rfl (zt_iload rfl rfl (zt_aload_n rfl rfl (zt_getr (mjkd13 _ _ _ _) (mjhr13_9 w c) rfl (zt_iload_n rfl rfl (zt_iconst rfl (zt_isub rfl (zt_iald (mjkd21 _ _ _ _) (mjln21 _ _ _ _) rfl rfl (zt_aload_n rfl rfl (zt_getr (mjkd13 _ _ _ _) (mjhr13_9 w c) rfl (zt_iload_n rfl rfl (zt_iald (mjkd21 _ _ _ _) (mjln21 _ _ _ _) rfl rfl (zt_call1_1 (Nat.le_of_ble_eq_true rfl) rfl (Nat.le_of_ble_eq_true rfl) rfl rfl))))))))))))))))))))
set_option maxRecDepth 100000 in
theorem f20_201 : mj_find (mj_P 20).2.2.2.2 201 = [(.iastore, 1, 0, [])] := rfl
set_option maxRecDepth 100000 in
theorem q20_201 (E : mj_E) (d w c : Nat) (hi : Nat → Nat → Int32) (hl : Nat → Nat → Int64) (v1 : Int32) (v2 : Int32) (v3 : Int32) (v4 : Int32) (v5 : Int32) (s0 : Int32) (s1 : Int32) : mj_den mj_P E d 20 201 [Value.ref 13, Value.int v1, Value.int v2, Value.int v3, Value.int v4, Value.int v5] [Value.int s0, Value.int s1, Value.ref 21] (mj_hw w c hi hl) = if 0 ≤ s1 ∧ (s1).toNatClampNeg < 32 then mj_den mj_P E d 20 202 [Value.ref 13, Value.int v1, Value.int v2, Value.int v3, Value.int v4, Value.int v5] [] (mj_hw w c (mj_u hi 21 ((s1).toNatClampNeg) s0) hl) else none := by
  rw [mj_den_eq, f20_201]
  exact zt_iast (mjkd21 _ _ _ _) (mjln21 _ _ _ _) rfl rfl (zt_end rfl)
set_option maxRecDepth 100000 in
theorem f20_202 : mj_find (mj_P 20).2.2.2.2 202 = [(.iinc 4 1, 3, 1, []), (.goto (-200), 3, 0, [5])] := rfl
set_option maxRecDepth 100000 in
theorem q20_202 (E : mj_E) (d w c : Nat) (hi : Nat → Nat → Int32) (hl : Nat → Nat → Int64) (v1 : Int32) (v2 : Int32) (v3 : Int32) (v4 : Int32) (v5 : Int32) : mj_den mj_P E d 20 202 [Value.ref 13, Value.int v1, Value.int v2, Value.int v3, Value.int v4, Value.int v5] [] (mj_hw w c hi hl) = mj_den mj_P E d 20 5 [Value.ref 13, Value.int v1, Value.int v2, Value.int v3, Value.int (v4 + (1 : Int32)), Value.int v5] [] (mj_hw w c hi hl) := by
  rw [mj_den_eq, f20_202]
  exact zt_iinc rfl (Nat.le_of_ble_eq_true rfl) rfl rfl (zt_goto rfl)
set_option maxRecDepth 100000 in
theorem f20_208 : mj_find (mj_P 20).2.2.2.2 208 = [(.aload_n 0, 1, 0, []), (.getfield 40, 3, 0, [2, 9, 3, 297]), (.iconst 0, 1, 0, []), (.iaload, 1, 0, []), (.ireturn, 1, 0, [0])] := rfl
set_option maxRecDepth 100000 in
theorem q20_208 (E : mj_E) (d w c : Nat) (hi : Nat → Nat → Int32) (hl : Nat → Nat → Int64) (v1 : Int32) (v2 : Int32) (v3 : Int32) (v4 : Int32) (v5 : Int32) : mj_den mj_P E d 20 208 [Value.ref 13, Value.int v1, Value.int v2, Value.int v3, Value.int v4, Value.int v5] [] (mj_hw w c hi hl) = if 0 ≤ (0 : Int32) ∧ ((0 : Int32)).toNatClampNeg < 32 then some (some (Value.int (hi 21 (((0 : Int32)).toNatClampNeg))), (mj_hw w c hi hl)) else none := by
  rw [mj_den_eq, f20_208]
  exact zt_aload_n rfl rfl (zt_getr (mjkd13 _ _ _ _) (mjhr13_9 w c) rfl (zt_iconst rfl (zt_iald (mjkd21 _ _ _ _) (mjln21 _ _ _ _) rfl rfl (zt_ireturn0))))
set_option maxRecDepth 100000 in
theorem q20_208_1 (E : mj_E) (d w c : Nat) (hi : Nat → Nat → Int32) (hl : Nat → Nat → Int64) (v1 : Int32) (v2 : Int32) (v3 : Int32) (v4 : Int32) : mj_den mj_P E d 20 208 [Value.ref 13, Value.int v1, Value.int v2, Value.int v3, Value.int v4, Value.float 0] [] (mj_hw w c hi hl) = if 0 ≤ (0 : Int32) ∧ ((0 : Int32)).toNatClampNeg < 32 then some (some (Value.int (hi 21 (((0 : Int32)).toNatClampNeg))), (mj_hw w c hi hl)) else none := by
  rw [mj_den_eq, f20_208]
  exact zt_aload_n rfl rfl (zt_getr (mjkd13 _ _ _ _) (mjhr13_9 w c) rfl (zt_iconst rfl (zt_iald (mjkd21 _ _ _ _) (mjln21 _ _ _ _) rfl rfl (zt_ireturn0))))
set_option maxRecDepth 100000 in
theorem f21_0 : mj_find (mj_P 21).2.2.2.2 0 = [(.iload_n 0, 1, 0, []), (.tableswitch 100 11 19 #[51, 55, 59, 100, 63, 74, 85, 100, 96], 51, 11, [101, 52, 56, 60, 101, 64, 75, 86, 101, 97])] := rfl
set_option maxRecDepth 100000 in
theorem q21_0 (E : mj_E) (d w c : Nat) (hi : Nat → Nat → Int32) (hl : Nat → Nat → Int64) (v0 : Int32) (v1 : Int32) (v2 : Int32) : mj_den mj_P E d 21 0 [Value.int v0, Value.int v1, Value.int v2] [] (mj_hw w c hi hl) = mj_den mj_P E d 21 (mj_sw v0 (11 : Int32) 101 [52, 56, 60, 101, 64, 75, 86, 101, 97]) [Value.int v0, Value.int v1, Value.int v2] [] (mj_hw w c hi hl) := by
  rw [mj_den_eq, f21_0]
  exact zt_iload_n rfl rfl (zt_sw rfl)
set_option maxRecDepth 100000 in
theorem f21_52 : mj_find (mj_P 21).2.2.2.2 52 = [(.iload_n 1, 1, 0, []), (.iload_n 2, 1, 0, []), (.iadd, 1, 0, []), (.ireturn, 1, 0, [0])] := rfl
set_option maxRecDepth 100000 in
theorem q21_52 (E : mj_E) (d w c : Nat) (hi : Nat → Nat → Int32) (hl : Nat → Nat → Int64) (v0 : Int32) (v1 : Int32) (v2 : Int32) : mj_den mj_P E d 21 52 [Value.int v0, Value.int v1, Value.int v2] [] (mj_hw w c hi hl) = some (some (Value.int (v1 + v2)), (mj_hw w c hi hl)) := by
  rw [mj_den_eq, f21_52]
  exact zt_iload_n rfl rfl (zt_iload_n rfl rfl (zt_iadd rfl (zt_ireturn0)))
set_option maxRecDepth 100000 in
theorem f21_56 : mj_find (mj_P 21).2.2.2.2 56 = [(.iload_n 1, 1, 0, []), (.iload_n 2, 1, 0, []), (.isub, 1, 0, []), (.ireturn, 1, 0, [0])] := rfl
set_option maxRecDepth 100000 in
theorem q21_56 (E : mj_E) (d w c : Nat) (hi : Nat → Nat → Int32) (hl : Nat → Nat → Int64) (v0 : Int32) (v1 : Int32) (v2 : Int32) : mj_den mj_P E d 21 56 [Value.int v0, Value.int v1, Value.int v2] [] (mj_hw w c hi hl) = some (some (Value.int (v1 - v2)), (mj_hw w c hi hl)) := by
  rw [mj_den_eq, f21_56]
  exact zt_iload_n rfl rfl (zt_iload_n rfl rfl (zt_isub rfl (zt_ireturn0)))
set_option maxRecDepth 100000 in
theorem f21_60 : mj_find (mj_P 21).2.2.2.2 60 = [(.iload_n 1, 1, 0, []), (.iload_n 2, 1, 0, []), (.imul, 1, 0, []), (.ireturn, 1, 0, [0])] := rfl
set_option maxRecDepth 100000 in
theorem q21_60 (E : mj_E) (d w c : Nat) (hi : Nat → Nat → Int32) (hl : Nat → Nat → Int64) (v0 : Int32) (v1 : Int32) (v2 : Int32) : mj_den mj_P E d 21 60 [Value.int v0, Value.int v1, Value.int v2] [] (mj_hw w c hi hl) = some (some (Value.int (v1 * v2)), (mj_hw w c hi hl)) := by
  rw [mj_den_eq, f21_60]
  exact zt_iload_n rfl rfl (zt_iload_n rfl rfl (zt_imul rfl (zt_ireturn0)))
set_option maxRecDepth 100000 in
theorem f21_64 : mj_find (mj_P 21).2.2.2.2 64 = [(.iload_n 1, 1, 0, []), (.iload_n 2, 1, 0, []), (.if_icmp .ge 7, 3, 0, [73]), (.iconst 1, 1, 1, []), (.goto 4, 3, 0, [74])] := rfl
set_option maxRecDepth 100000 in
theorem q21_64 (E : mj_E) (d w c : Nat) (hi : Nat → Nat → Int32) (hl : Nat → Nat → Int64) (v0 : Int32) (v1 : Int32) (v2 : Int32) : mj_den mj_P E d 21 64 [Value.int v0, Value.int v1, Value.int v2] [] (mj_hw w c hi hl) = if v2 ≤ v1 then mj_den mj_P E d 21 73 [Value.int v0, Value.int v1, Value.int v2] [] (mj_hw w c hi hl) else mj_den mj_P E d 21 74 [Value.int v0, Value.int v1, Value.int v2] [Value.int (1 : Int32)] (mj_hw w c hi hl) := by
  rw [mj_den_eq, f21_64]
  exact zt_iload_n rfl rfl (zt_iload_n rfl rfl (zt_icmp_ge rfl rfl (zt_iconst rfl (zt_goto rfl))))
set_option maxRecDepth 100000 in
theorem f21_73 : mj_find (mj_P 21).2.2.2.2 73 = [(.iconst 0, 1, 0, [])] := rfl
set_option maxRecDepth 100000 in
theorem q21_73 (E : mj_E) (d w c : Nat) (hi : Nat → Nat → Int32) (hl : Nat → Nat → Int64) (v0 : Int32) (v1 : Int32) (v2 : Int32) : mj_den mj_P E d 21 73 [Value.int v0, Value.int v1, Value.int v2] [] (mj_hw w c hi hl) = mj_den mj_P E d 21 74 [Value.int v0, Value.int v1, Value.int v2] [Value.int (0 : Int32)] (mj_hw w c hi hl) := by
  rw [mj_den_eq, f21_73]
  exact zt_iconst rfl (zt_end rfl)
set_option maxRecDepth 100000 in
theorem f21_74 : mj_find (mj_P 21).2.2.2.2 74 = [(.ireturn, 1, 0, [0])] := rfl
set_option maxRecDepth 100000 in
theorem q21_74 (E : mj_E) (d w c : Nat) (hi : Nat → Nat → Int32) (hl : Nat → Nat → Int64) (v0 : Int32) (v1 : Int32) (v2 : Int32) (s0 : Int32) : mj_den mj_P E d 21 74 [Value.int v0, Value.int v1, Value.int v2] [Value.int s0] (mj_hw w c hi hl) = some (some (Value.int s0), (mj_hw w c hi hl)) := by
  rw [mj_den_eq, f21_74]
  exact zt_ireturn0
set_option maxRecDepth 100000 in
theorem f21_75 : mj_find (mj_P 21).2.2.2.2 75 = [(.iload_n 1, 1, 0, []), (.iload_n 2, 1, 0, []), (.if_icmp .ne 7, 3, 0, [84]), (.iconst 1, 1, 1, []), (.goto 4, 3, 0, [85])] := rfl
set_option maxRecDepth 100000 in
theorem q21_75 (E : mj_E) (d w c : Nat) (hi : Nat → Nat → Int32) (hl : Nat → Nat → Int64) (v0 : Int32) (v1 : Int32) (v2 : Int32) : mj_den mj_P E d 21 75 [Value.int v0, Value.int v1, Value.int v2] [] (mj_hw w c hi hl) = if ¬ v1 = v2 then mj_den mj_P E d 21 84 [Value.int v0, Value.int v1, Value.int v2] [] (mj_hw w c hi hl) else mj_den mj_P E d 21 85 [Value.int v0, Value.int v1, Value.int v2] [Value.int (1 : Int32)] (mj_hw w c hi hl) := by
  rw [mj_den_eq, f21_75]
  exact zt_iload_n rfl rfl (zt_iload_n rfl rfl (zt_icmp_ne rfl rfl (zt_iconst rfl (zt_goto rfl))))
set_option maxRecDepth 100000 in
theorem f21_84 : mj_find (mj_P 21).2.2.2.2 84 = [(.iconst 0, 1, 0, [])] := rfl
set_option maxRecDepth 100000 in
theorem q21_84 (E : mj_E) (d w c : Nat) (hi : Nat → Nat → Int32) (hl : Nat → Nat → Int64) (v0 : Int32) (v1 : Int32) (v2 : Int32) : mj_den mj_P E d 21 84 [Value.int v0, Value.int v1, Value.int v2] [] (mj_hw w c hi hl) = mj_den mj_P E d 21 85 [Value.int v0, Value.int v1, Value.int v2] [Value.int (0 : Int32)] (mj_hw w c hi hl) := by
  rw [mj_den_eq, f21_84]
  exact zt_iconst rfl (zt_end rfl)
set_option maxRecDepth 100000 in
theorem f21_85 : mj_find (mj_P 21).2.2.2.2 85 = [(.ireturn, 1, 0, [0])] := rfl
set_option maxRecDepth 100000 in
theorem q21_85 (E : mj_E) (d w c : Nat) (hi : Nat → Nat → Int32) (hl : Nat → Nat → Int64) (v0 : Int32) (v1 : Int32) (v2 : Int32) (s0 : Int32) : mj_den mj_P E d 21 85 [Value.int v0, Value.int v1, Value.int v2] [Value.int s0] (mj_hw w c hi hl) = some (some (Value.int s0), (mj_hw w c hi hl)) := by
  rw [mj_den_eq, f21_85]
  exact zt_ireturn0
set_option maxRecDepth 100000 in
theorem f21_86 : mj_find (mj_P 21).2.2.2.2 86 = [(.iload_n 1, 1, 0, []), (.iload_n 2, 1, 0, []), (.if_icmp .le 7, 3, 0, [95]), (.iconst 1, 1, 1, []), (.goto 4, 3, 0, [96])] := rfl
set_option maxRecDepth 100000 in
theorem q21_86 (E : mj_E) (d w c : Nat) (hi : Nat → Nat → Int32) (hl : Nat → Nat → Int64) (v0 : Int32) (v1 : Int32) (v2 : Int32) : mj_den mj_P E d 21 86 [Value.int v0, Value.int v1, Value.int v2] [] (mj_hw w c hi hl) = if v1 ≤ v2 then mj_den mj_P E d 21 95 [Value.int v0, Value.int v1, Value.int v2] [] (mj_hw w c hi hl) else mj_den mj_P E d 21 96 [Value.int v0, Value.int v1, Value.int v2] [Value.int (1 : Int32)] (mj_hw w c hi hl) := by
  rw [mj_den_eq, f21_86]
  exact zt_iload_n rfl rfl (zt_iload_n rfl rfl (zt_icmp_le rfl rfl (zt_iconst rfl (zt_goto rfl))))
set_option maxRecDepth 100000 in
theorem f21_95 : mj_find (mj_P 21).2.2.2.2 95 = [(.iconst 0, 1, 0, [])] := rfl
set_option maxRecDepth 100000 in
theorem q21_95 (E : mj_E) (d w c : Nat) (hi : Nat → Nat → Int32) (hl : Nat → Nat → Int64) (v0 : Int32) (v1 : Int32) (v2 : Int32) : mj_den mj_P E d 21 95 [Value.int v0, Value.int v1, Value.int v2] [] (mj_hw w c hi hl) = mj_den mj_P E d 21 96 [Value.int v0, Value.int v1, Value.int v2] [Value.int (0 : Int32)] (mj_hw w c hi hl) := by
  rw [mj_den_eq, f21_95]
  exact zt_iconst rfl (zt_end rfl)
set_option maxRecDepth 100000 in
theorem f21_96 : mj_find (mj_P 21).2.2.2.2 96 = [(.ireturn, 1, 0, [0])] := rfl
set_option maxRecDepth 100000 in
theorem q21_96 (E : mj_E) (d w c : Nat) (hi : Nat → Nat → Int32) (hl : Nat → Nat → Int64) (v0 : Int32) (v1 : Int32) (v2 : Int32) (s0 : Int32) : mj_den mj_P E d 21 96 [Value.int v0, Value.int v1, Value.int v2] [Value.int s0] (mj_hw w c hi hl) = some (some (Value.int s0), (mj_hw w c hi hl)) := by
  rw [mj_den_eq, f21_96]
  exact zt_ireturn0
set_option maxRecDepth 100000 in
theorem f21_97 : mj_find (mj_P 21).2.2.2.2 97 = [(.iload_n 1, 1, 0, []), (.iload_n 2, 1, 0, []), (.iand, 1, 0, []), (.ireturn, 1, 0, [0])] := rfl
set_option maxRecDepth 100000 in
theorem q21_97 (E : mj_E) (d w c : Nat) (hi : Nat → Nat → Int32) (hl : Nat → Nat → Int64) (v0 : Int32) (v1 : Int32) (v2 : Int32) : mj_den mj_P E d 21 97 [Value.int v0, Value.int v1, Value.int v2] [] (mj_hw w c hi hl) = some (some (Value.int (v1 &&& v2)), (mj_hw w c hi hl)) := by
  rw [mj_den_eq, f21_97]
  exact zt_iload_n rfl rfl (zt_iload_n rfl rfl (zt_iand rfl (zt_ireturn0)))
set_option maxRecDepth 100000 in
theorem f21_101 : mj_find (mj_P 21).2.2.2.2 101 = [(.iload_n 1, 1, 0, []), (.iload_n 2, 1, 0, []), (.ior, 1, 0, []), (.ireturn, 1, 0, [0])] := rfl
set_option maxRecDepth 100000 in
theorem q21_101 (E : mj_E) (d w c : Nat) (hi : Nat → Nat → Int32) (hl : Nat → Nat → Int64) (v0 : Int32) (v1 : Int32) (v2 : Int32) : mj_den mj_P E d 21 101 [Value.int v0, Value.int v1, Value.int v2] [] (mj_hw w c hi hl) = some (some (Value.int (v1 ||| v2)), (mj_hw w c hi hl)) := by
  rw [mj_den_eq, f21_101]
  exact zt_iload_n rfl rfl (zt_iload_n rfl rfl (zt_ior rfl (zt_ireturn0)))
set_option maxRecDepth 100000 in
theorem f22_0 : mj_find (mj_P 22).2.2.2.2 0 = [(.aload_n 0, 1, 0, []), (.aload_n 1, 1, 0, []), (.getfield 9, 3, 0, [2, 0, 0, 281]), (.putfield 9, 3, 0, [2, 0, 0, 281]), (.aload_n 0, 1, 0, []), (.aload_n 1, 1, 0, []), (.getfield 15, 3, 0, [2, 1, 0, 284]), (.putfield 15, 3, 0, [2, 1, 0, 284]), (.aload_n 1, 1, 0, []), (.getfield 18, 3, 0, [2, 2, 3, 286]), (.aload_n 0, 1, 0, []), (.getfield 18, 3, 0, [2, 2, 3, 286]), (.invokestatic 100, 3, 0, [6, 149, 0, 2, 0, 1044, 725, 143, 726])] := rfl
set_option maxRecDepth 100000 in
theorem q22_0 (E : mj_E) (d w c : Nat) (hi : Nat → Nat → Int32) (hl : Nat → Nat → Int64) : mj_den mj_P E d 22 0 [Value.ref 58, Value.ref 13] [] (mj_hw w c hi hl) = mj_bv (mj_dc mj_P E d 149 [Value.ref 14, Value.ref 59] (mj_hw w c (mj_u (mj_u hi 58 0 (hi 13 0)) 58 1 (hi 13 1)) hl)) (fun h1 => mj_den mj_P E d 22 27 [Value.ref 58, Value.ref 13] [] h1) := by
  rw [mj_den_eq, f22_0]
  exact zt_aload_n rfl rfl (zt_aload_n rfl rfl (zt_geti (mjkd13 _ _ _ _) rfl rfl (zt_puti (mjkd58 _ _ _ _) rfl rfl (zt_aload_n rfl rfl (zt_aload_n rfl rfl (zt_geti (mjkd13 _ _ _ _) rfl rfl (zt_puti (mjkd58 _ _ _ _) rfl rfl (zt_aload_n rfl rfl (zt_getr (mjkd13 _ _ _ _) (mjhr13_2 w c) rfl (zt_aload_n rfl rfl (zt_getr (mjkd58 _ _ _ _) (mjhr58_2 w c) rfl (zt_call6_0 (Nat.le_of_ble_eq_true rfl) rfl (Nat.le_of_ble_eq_true rfl) rfl rfl))))))))))))
set_option maxRecDepth 100000 in
theorem q22_0_1 (E : mj_E) (d w c : Nat) (hi : Nat → Nat → Int32) (hl : Nat → Nat → Int64) : mj_den mj_P E d 22 0 [Value.ref 13, Value.ref 58] [] (mj_hw w c hi hl) = mj_bv (mj_dc mj_P E d 149 [Value.ref 59, Value.ref 14] (mj_hw w c (mj_u (mj_u hi 13 0 (hi 58 0)) 13 1 (hi 58 1)) hl)) (fun h1 => mj_den mj_P E d 22 27 [Value.ref 13, Value.ref 58] [] h1) := by
  rw [mj_den_eq, f22_0]
  exact zt_aload_n rfl rfl (zt_aload_n rfl rfl (zt_geti (mjkd58 _ _ _ _) rfl rfl (zt_puti (mjkd13 _ _ _ _) rfl rfl (zt_aload_n rfl rfl (zt_aload_n rfl rfl (zt_geti (mjkd58 _ _ _ _) rfl rfl (zt_puti (mjkd13 _ _ _ _) rfl rfl (zt_aload_n rfl rfl (zt_getr (mjkd58 _ _ _ _) (mjhr58_2 w c) rfl (zt_aload_n rfl rfl (zt_getr (mjkd13 _ _ _ _) (mjhr13_2 w c) rfl (zt_call6_0 (Nat.le_of_ble_eq_true rfl) rfl (Nat.le_of_ble_eq_true rfl) rfl rfl))))))))))))
set_option maxRecDepth 100000 in
theorem q22_0_2 (E : mj_E) (d w c : Nat) (hi : Nat → Nat → Int32) (hl : Nat → Nat → Int64) : mj_den mj_P E d 22 0 [Value.ref 13, Value.ref 160] [] (mj_hw w c hi hl) = mj_bv (mj_dc mj_P E d 149 [Value.ref 161, Value.ref 14] (mj_hw w c (mj_u (mj_u hi 13 0 (hi 160 0)) 13 1 (hi 160 1)) hl)) (fun h1 => mj_den mj_P E d 22 27 [Value.ref 13, Value.ref 160] [] h1) := by
  rw [mj_den_eq, f22_0]
  exact zt_aload_n rfl rfl (zt_aload_n rfl rfl (zt_geti (mjkd160 _ _ _ _) rfl rfl (zt_puti (mjkd13 _ _ _ _) rfl rfl (zt_aload_n rfl rfl (zt_aload_n rfl rfl (zt_geti (mjkd160 _ _ _ _) rfl rfl (zt_puti (mjkd13 _ _ _ _) rfl rfl (zt_aload_n rfl rfl (zt_getr (mjkd160 _ _ _ _) (mjhr160_2 w c) rfl (zt_aload_n rfl rfl (zt_getr (mjkd13 _ _ _ _) (mjhr13_2 w c) rfl (zt_call6_0 (Nat.le_of_ble_eq_true rfl) rfl (Nat.le_of_ble_eq_true rfl) rfl rfl))))))))))))
set_option maxRecDepth 100000 in
theorem f22_27 : mj_find (mj_P 22).2.2.2.2 27 = [(.aload_n 1, 1, 0, []), (.getfield 22, 3, 0, [2, 3, 3, 288]), (.aload_n 0, 1, 0, []), (.getfield 22, 3, 0, [2, 3, 3, 288]), (.invokestatic 100, 3, 0, [6, 149, 0, 2, 0, 1044, 725, 143, 726])] := rfl
set_option maxRecDepth 100000 in
theorem q22_27 (E : mj_E) (d w c : Nat) (hi : Nat → Nat → Int32) (hl : Nat → Nat → Int64) : mj_den mj_P E d 22 27 [Value.ref 58, Value.ref 13] [] (mj_hw w c hi hl) = mj_bv (mj_dc mj_P E d 149 [Value.ref 15, Value.ref 60] (mj_hw w c hi hl)) (fun h1 => mj_den mj_P E d 22 38 [Value.ref 58, Value.ref 13] [] h1) := by
  rw [mj_den_eq, f22_27]
  exact zt_aload_n rfl rfl (zt_getr (mjkd13 _ _ _ _) (mjhr13_3 w c) rfl (zt_aload_n rfl rfl (zt_getr (mjkd58 _ _ _ _) (mjhr58_3 w c) rfl (zt_call6_0 (Nat.le_of_ble_eq_true rfl) rfl (Nat.le_of_ble_eq_true rfl) rfl rfl))))
set_option maxRecDepth 100000 in
theorem q22_27_1 (E : mj_E) (d w c : Nat) (hi : Nat → Nat → Int32) (hl : Nat → Nat → Int64) : mj_den mj_P E d 22 27 [Value.ref 13, Value.ref 58] [] (mj_hw w c hi hl) = mj_bv (mj_dc mj_P E d 149 [Value.ref 60, Value.ref 15] (mj_hw w c hi hl)) (fun h1 => mj_den mj_P E d 22 38 [Value.ref 13, Value.ref 58] [] h1) := by
  rw [mj_den_eq, f22_27]
  exact zt_aload_n rfl rfl (zt_getr (mjkd58 _ _ _ _) (mjhr58_3 w c) rfl (zt_aload_n rfl rfl (zt_getr (mjkd13 _ _ _ _) (mjhr13_3 w c) rfl (zt_call6_0 (Nat.le_of_ble_eq_true rfl) rfl (Nat.le_of_ble_eq_true rfl) rfl rfl))))
set_option maxRecDepth 100000 in
theorem q22_27_2 (E : mj_E) (d w c : Nat) (hi : Nat → Nat → Int32) (hl : Nat → Nat → Int64) : mj_den mj_P E d 22 27 [Value.ref 13, Value.ref 160] [] (mj_hw w c hi hl) = mj_bv (mj_dc mj_P E d 149 [Value.ref 162, Value.ref 15] (mj_hw w c hi hl)) (fun h1 => mj_den mj_P E d 22 38 [Value.ref 13, Value.ref 160] [] h1) := by
  rw [mj_den_eq, f22_27]
  exact zt_aload_n rfl rfl (zt_getr (mjkd160 _ _ _ _) (mjhr160_3 w c) rfl (zt_aload_n rfl rfl (zt_getr (mjkd13 _ _ _ _) (mjhr13_3 w c) rfl (zt_call6_0 (Nat.le_of_ble_eq_true rfl) rfl (Nat.le_of_ble_eq_true rfl) rfl rfl))))
set_option maxRecDepth 100000 in
theorem f22_38 : mj_find (mj_P 22).2.2.2.2 38 = [(.aload_n 1, 1, 0, []), (.getfield 25, 3, 0, [2, 4, 3, 290]), (.aload_n 0, 1, 0, []), (.getfield 25, 3, 0, [2, 4, 3, 290]), (.invokestatic 100, 3, 0, [6, 149, 0, 2, 0, 1044, 725, 143, 726])] := rfl
set_option maxRecDepth 100000 in
theorem q22_38 (E : mj_E) (d w c : Nat) (hi : Nat → Nat → Int32) (hl : Nat → Nat → Int64) : mj_den mj_P E d 22 38 [Value.ref 58, Value.ref 13] [] (mj_hw w c hi hl) = mj_bv (mj_dc mj_P E d 149 [Value.ref 16, Value.ref 61] (mj_hw w c hi hl)) (fun h1 => mj_den mj_P E d 22 49 [Value.ref 58, Value.ref 13] [] h1) := by
  rw [mj_den_eq, f22_38]
  exact zt_aload_n rfl rfl (zt_getr (mjkd13 _ _ _ _) (mjhr13_4 w c) rfl (zt_aload_n rfl rfl (zt_getr (mjkd58 _ _ _ _) (mjhr58_4 w c) rfl (zt_call6_0 (Nat.le_of_ble_eq_true rfl) rfl (Nat.le_of_ble_eq_true rfl) rfl rfl))))
set_option maxRecDepth 100000 in
theorem q22_38_1 (E : mj_E) (d w c : Nat) (hi : Nat → Nat → Int32) (hl : Nat → Nat → Int64) : mj_den mj_P E d 22 38 [Value.ref 13, Value.ref 58] [] (mj_hw w c hi hl) = mj_bv (mj_dc mj_P E d 149 [Value.ref 61, Value.ref 16] (mj_hw w c hi hl)) (fun h1 => mj_den mj_P E d 22 49 [Value.ref 13, Value.ref 58] [] h1) := by
  rw [mj_den_eq, f22_38]
  exact zt_aload_n rfl rfl (zt_getr (mjkd58 _ _ _ _) (mjhr58_4 w c) rfl (zt_aload_n rfl rfl (zt_getr (mjkd13 _ _ _ _) (mjhr13_4 w c) rfl (zt_call6_0 (Nat.le_of_ble_eq_true rfl) rfl (Nat.le_of_ble_eq_true rfl) rfl rfl))))
set_option maxRecDepth 100000 in
theorem q22_38_2 (E : mj_E) (d w c : Nat) (hi : Nat → Nat → Int32) (hl : Nat → Nat → Int64) : mj_den mj_P E d 22 38 [Value.ref 13, Value.ref 160] [] (mj_hw w c hi hl) = mj_bv (mj_dc mj_P E d 149 [Value.ref 163, Value.ref 16] (mj_hw w c hi hl)) (fun h1 => mj_den mj_P E d 22 49 [Value.ref 13, Value.ref 160] [] h1) := by
  rw [mj_den_eq, f22_38]
  exact zt_aload_n rfl rfl (zt_getr (mjkd160 _ _ _ _) (mjhr160_4 w c) rfl (zt_aload_n rfl rfl (zt_getr (mjkd13 _ _ _ _) (mjhr13_4 w c) rfl (zt_call6_0 (Nat.le_of_ble_eq_true rfl) rfl (Nat.le_of_ble_eq_true rfl) rfl rfl))))
set_option maxRecDepth 100000 in
theorem f22_49 : mj_find (mj_P 22).2.2.2.2 49 = [(.aload_n 1, 1, 0, []), (.getfield 28, 3, 0, [2, 5, 3, 292]), (.aload_n 0, 1, 0, []), (.getfield 28, 3, 0, [2, 5, 3, 292]), (.invokestatic 100, 3, 0, [6, 149, 0, 2, 0, 1044, 725, 143, 726])] := rfl
set_option maxRecDepth 100000 in
theorem q22_49 (E : mj_E) (d w c : Nat) (hi : Nat → Nat → Int32) (hl : Nat → Nat → Int64) : mj_den mj_P E d 22 49 [Value.ref 58, Value.ref 13] [] (mj_hw w c hi hl) = mj_bv (mj_dc mj_P E d 149 [Value.ref 17, Value.ref 62] (mj_hw w c hi hl)) (fun h1 => mj_den mj_P E d 22 60 [Value.ref 58, Value.ref 13] [] h1) := by
  rw [mj_den_eq, f22_49]
  exact zt_aload_n rfl rfl (zt_getr (mjkd13 _ _ _ _) (mjhr13_5 w c) rfl (zt_aload_n rfl rfl (zt_getr (mjkd58 _ _ _ _) (mjhr58_5 w c) rfl (zt_call6_0 (Nat.le_of_ble_eq_true rfl) rfl (Nat.le_of_ble_eq_true rfl) rfl rfl))))
set_option maxRecDepth 100000 in
theorem q22_49_1 (E : mj_E) (d w c : Nat) (hi : Nat → Nat → Int32) (hl : Nat → Nat → Int64) : mj_den mj_P E d 22 49 [Value.ref 13, Value.ref 58] [] (mj_hw w c hi hl) = mj_bv (mj_dc mj_P E d 149 [Value.ref 62, Value.ref 17] (mj_hw w c hi hl)) (fun h1 => mj_den mj_P E d 22 60 [Value.ref 13, Value.ref 58] [] h1) := by
  rw [mj_den_eq, f22_49]
  exact zt_aload_n rfl rfl (zt_getr (mjkd58 _ _ _ _) (mjhr58_5 w c) rfl (zt_aload_n rfl rfl (zt_getr (mjkd13 _ _ _ _) (mjhr13_5 w c) rfl (zt_call6_0 (Nat.le_of_ble_eq_true rfl) rfl (Nat.le_of_ble_eq_true rfl) rfl rfl))))
set_option maxRecDepth 100000 in
theorem q22_49_2 (E : mj_E) (d w c : Nat) (hi : Nat → Nat → Int32) (hl : Nat → Nat → Int64) : mj_den mj_P E d 22 49 [Value.ref 13, Value.ref 160] [] (mj_hw w c hi hl) = mj_bv (mj_dc mj_P E d 149 [Value.ref 164, Value.ref 17] (mj_hw w c hi hl)) (fun h1 => mj_den mj_P E d 22 60 [Value.ref 13, Value.ref 160] [] h1) := by
  rw [mj_den_eq, f22_49]
  exact zt_aload_n rfl rfl (zt_getr (mjkd160 _ _ _ _) (mjhr160_5 w c) rfl (zt_aload_n rfl rfl (zt_getr (mjkd13 _ _ _ _) (mjhr13_5 w c) rfl (zt_call6_0 (Nat.le_of_ble_eq_true rfl) rfl (Nat.le_of_ble_eq_true rfl) rfl rfl))))
set_option maxRecDepth 100000 in
theorem f22_60 : mj_find (mj_P 22).2.2.2.2 60 = [(.aload_n 1, 1, 0, []), (.getfield 31, 3, 0, [2, 6, 3, 294]), (.aload_n 0, 1, 0, []), (.getfield 31, 3, 0, [2, 6, 3, 294]), (.invokestatic 100, 3, 0, [6, 149, 0, 2, 0, 1044, 725, 143, 726])] := rfl
set_option maxRecDepth 100000 in
theorem q22_60 (E : mj_E) (d w c : Nat) (hi : Nat → Nat → Int32) (hl : Nat → Nat → Int64) : mj_den mj_P E d 22 60 [Value.ref 58, Value.ref 13] [] (mj_hw w c hi hl) = mj_bv (mj_dc mj_P E d 149 [Value.ref 18, Value.ref 63] (mj_hw w c hi hl)) (fun h1 => mj_den mj_P E d 22 71 [Value.ref 58, Value.ref 13] [] h1) := by
  rw [mj_den_eq, f22_60]
  exact zt_aload_n rfl rfl (zt_getr (mjkd13 _ _ _ _) (mjhr13_6 w c) rfl (zt_aload_n rfl rfl (zt_getr (mjkd58 _ _ _ _) (mjhr58_6 w c) rfl (zt_call6_0 (Nat.le_of_ble_eq_true rfl) rfl (Nat.le_of_ble_eq_true rfl) rfl rfl))))
set_option maxRecDepth 100000 in
theorem q22_60_1 (E : mj_E) (d w c : Nat) (hi : Nat → Nat → Int32) (hl : Nat → Nat → Int64) : mj_den mj_P E d 22 60 [Value.ref 13, Value.ref 58] [] (mj_hw w c hi hl) = mj_bv (mj_dc mj_P E d 149 [Value.ref 63, Value.ref 18] (mj_hw w c hi hl)) (fun h1 => mj_den mj_P E d 22 71 [Value.ref 13, Value.ref 58] [] h1) := by
  rw [mj_den_eq, f22_60]
  exact zt_aload_n rfl rfl (zt_getr (mjkd58 _ _ _ _) (mjhr58_6 w c) rfl (zt_aload_n rfl rfl (zt_getr (mjkd13 _ _ _ _) (mjhr13_6 w c) rfl (zt_call6_0 (Nat.le_of_ble_eq_true rfl) rfl (Nat.le_of_ble_eq_true rfl) rfl rfl))))
set_option maxRecDepth 100000 in
theorem q22_60_2 (E : mj_E) (d w c : Nat) (hi : Nat → Nat → Int32) (hl : Nat → Nat → Int64) : mj_den mj_P E d 22 60 [Value.ref 13, Value.ref 160] [] (mj_hw w c hi hl) = mj_bv (mj_dc mj_P E d 149 [Value.ref 165, Value.ref 18] (mj_hw w c hi hl)) (fun h1 => mj_den mj_P E d 22 71 [Value.ref 13, Value.ref 160] [] h1) := by
  rw [mj_den_eq, f22_60]
  exact zt_aload_n rfl rfl (zt_getr (mjkd160 _ _ _ _) (mjhr160_6 w c) rfl (zt_aload_n rfl rfl (zt_getr (mjkd13 _ _ _ _) (mjhr13_6 w c) rfl (zt_call6_0 (Nat.le_of_ble_eq_true rfl) rfl (Nat.le_of_ble_eq_true rfl) rfl rfl))))
set_option maxRecDepth 100000 in
theorem f22_71 : mj_find (mj_P 22).2.2.2.2 71 = [(.aload_n 1, 1, 0, []), (.getfield 34, 3, 0, [2, 7, 3, 295]), (.aload_n 0, 1, 0, []), (.getfield 34, 3, 0, [2, 7, 3, 295]), (.invokestatic 100, 3, 0, [6, 149, 0, 2, 0, 1044, 725, 143, 726])] := rfl
set_option maxRecDepth 100000 in
theorem q22_71 (E : mj_E) (d w c : Nat) (hi : Nat → Nat → Int32) (hl : Nat → Nat → Int64) : mj_den mj_P E d 22 71 [Value.ref 58, Value.ref 13] [] (mj_hw w c hi hl) = mj_bv (mj_dc mj_P E d 149 [Value.ref 19, Value.ref 64] (mj_hw w c hi hl)) (fun h1 => mj_den mj_P E d 22 82 [Value.ref 58, Value.ref 13] [] h1) := by
  rw [mj_den_eq, f22_71]
  exact zt_aload_n rfl rfl (zt_getr (mjkd13 _ _ _ _) (mjhr13_7 w c) rfl (zt_aload_n rfl rfl (zt_getr (mjkd58 _ _ _ _) (mjhr58_7 w c) rfl (zt_call6_0 (Nat.le_of_ble_eq_true rfl) rfl (Nat.le_of_ble_eq_true rfl) rfl rfl))))
set_option maxRecDepth 100000 in
theorem q22_71_1 (E : mj_E) (d w c : Nat) (hi : Nat → Nat → Int32) (hl : Nat → Nat → Int64) : mj_den mj_P E d 22 71 [Value.ref 13, Value.ref 58] [] (mj_hw w c hi hl) = mj_bv (mj_dc mj_P E d 149 [Value.ref 64, Value.ref 19] (mj_hw w c hi hl)) (fun h1 => mj_den mj_P E d 22 82 [Value.ref 13, Value.ref 58] [] h1) := by
  rw [mj_den_eq, f22_71]
  exact zt_aload_n rfl rfl (zt_getr (mjkd58 _ _ _ _) (mjhr58_7 w c) rfl (zt_aload_n rfl rfl (zt_getr (mjkd13 _ _ _ _) (mjhr13_7 w c) rfl (zt_call6_0 (Nat.le_of_ble_eq_true rfl) rfl (Nat.le_of_ble_eq_true rfl) rfl rfl))))
set_option maxRecDepth 100000 in
theorem q22_71_2 (E : mj_E) (d w c : Nat) (hi : Nat → Nat → Int32) (hl : Nat → Nat → Int64) : mj_den mj_P E d 22 71 [Value.ref 13, Value.ref 160] [] (mj_hw w c hi hl) = mj_bv (mj_dc mj_P E d 149 [Value.ref 166, Value.ref 19] (mj_hw w c hi hl)) (fun h1 => mj_den mj_P E d 22 82 [Value.ref 13, Value.ref 160] [] h1) := by
  rw [mj_den_eq, f22_71]
  exact zt_aload_n rfl rfl (zt_getr (mjkd160 _ _ _ _) (mjhr160_7 w c) rfl (zt_aload_n rfl rfl (zt_getr (mjkd13 _ _ _ _) (mjhr13_7 w c) rfl (zt_call6_0 (Nat.le_of_ble_eq_true rfl) rfl (Nat.le_of_ble_eq_true rfl) rfl rfl))))
set_option maxRecDepth 100000 in
theorem f22_82 : mj_find (mj_P 22).2.2.2.2 82 = [(.return_, 1, 0, [])] := rfl
set_option maxRecDepth 100000 in
theorem q22_82 (E : mj_E) (d w c : Nat) (hi : Nat → Nat → Int32) (hl : Nat → Nat → Int64) : mj_den mj_P E d 22 82 [Value.ref 58, Value.ref 13] [] (mj_hw w c hi hl) = some (none, (mj_hw w c hi hl)) := by
  rw [mj_den_eq, f22_82]
  exact zt_return
set_option maxRecDepth 100000 in
theorem q22_82_1 (E : mj_E) (d w c : Nat) (hi : Nat → Nat → Int32) (hl : Nat → Nat → Int64) : mj_den mj_P E d 22 82 [Value.ref 13, Value.ref 58] [] (mj_hw w c hi hl) = some (none, (mj_hw w c hi hl)) := by
  rw [mj_den_eq, f22_82]
  exact zt_return
set_option maxRecDepth 100000 in
theorem q22_82_2 (E : mj_E) (d w c : Nat) (hi : Nat → Nat → Int32) (hl : Nat → Nat → Int64) : mj_den mj_P E d 22 82 [Value.ref 13, Value.ref 160] [] (mj_hw w c hi hl) = some (none, (mj_hw w c hi hl)) := by
  rw [mj_den_eq, f22_82]
  exact zt_return
set_option maxRecDepth 100000 in
theorem f24_0 : mj_find (mj_P 24).2.2.2.2 0 = [(.aload_n 0, 1, 0, []), (.getfield 9, 3, 0, [3, 0, 0, 325]), (.istore 4, 2, 0, []), (.iload 4, 2, 0, []), (.ifCond .lt 10, 3, 0, [18]), (.iload 4, 2, 0, []), (.bipush 16, 2, 16, []), (.if_icmp .lt 4, 3, 0, [19])] := rfl
set_option maxRecDepth 100000 in
theorem q24_0 (E : mj_E) (d w c : Nat) (hi : Nat → Nat → Int32) (hl : Nat → Nat → Int64) (v1 : Int32) (v2 : Int32) (v3 : Int32) : mj_den mj_P E d 24 0 [Value.ref 169, Value.int v1, Value.int v2, Value.int v3, Value.float 0] [] (mj_hw w c hi hl) = if (hi 169 0) < 0 then mj_den mj_P E d 24 18 [Value.ref 169, Value.int v1, Value.int v2, Value.int v3, Value.int (hi 169 0)] [] (mj_hw w c hi hl) else if (hi 169 0) < (16 : Int32) then mj_den mj_P E d 24 19 [Value.ref 169, Value.int v1, Value.int v2, Value.int v3, Value.int (hi 169 0)] [] (mj_hw w c hi hl) else mj_den mj_P E d 24 18 [Value.ref 169, Value.int v1, Value.int v2, Value.int v3, Value.int (hi 169 0)] [] (mj_hw w c hi hl) := by
  rw [mj_den_eq, f24_0]
  exact zt_aload_n rfl rfl (zt_geti (mjkd169 _ _ _ _) rfl rfl (zt_istore (Nat.le_of_ble_eq_true rfl) rfl rfl (zt_iload rfl rfl (zt_if_lt rfl rfl (zt_iload rfl rfl (zt_bipush rfl (zt_icmp_lt rfl rfl (zt_end rfl))))))))
set_option maxRecDepth 100000 in
theorem f24_18 : mj_find (mj_P 24).2.2.2.2 18 = [(.return_, 1, 0, [])] := rfl
set_option maxRecDepth 100000 in
theorem q24_18 (E : mj_E) (d w c : Nat) (hi : Nat → Nat → Int32) (hl : Nat → Nat → Int64) (v1 : Int32) (v2 : Int32) (v3 : Int32) (v4 : Int32) : mj_den mj_P E d 24 18 [Value.ref 169, Value.int v1, Value.int v2, Value.int v3, Value.int v4] [] (mj_hw w c hi hl) = some (none, (mj_hw w c hi hl)) := by
  rw [mj_den_eq, f24_18]
  exact zt_return
set_option maxRecDepth 100000 in
theorem f24_19 : mj_find (mj_P 24).2.2.2.2 19 = [(.aload_n 0, 1, 0, []), (.getfield 15, 3, 0, [3, 1, 3, 331]), (.iload 4, 2, 0, []), (.iload_n 1, 1, 0, []), (.iastore, 1, 0, []), (.aload_n 0, 1, 0, []), (.getfield 19, 3, 0, [3, 2, 3, 333]), (.iload 4, 2, 0, []), (.iload_n 2, 1, 0, []), (.iastore, 1, 0, []), (.aload_n 0, 1, 0, []), (.getfield 22, 3, 0, [3, 3, 3, 338]), (.iload 4, 2, 0, []), (.iload_n 3, 1, 0, []), (.iastore, 1, 0, []), (.aload_n 0, 1, 0, []), (.dup, 1, 0, []), (.getfield 9, 3, 0, [3, 0, 0, 325]), (.iconst 1, 1, 1, []), (.iadd, 1, 0, []), (.putfield 9, 3, 0, [3, 0, 0, 325]), (.return_, 1, 0, [])] := rfl
set_option maxRecDepth 100000 in
theorem q24_19 (E : mj_E) (d w c : Nat) (hi : Nat → Nat → Int32) (hl : Nat → Nat → Int64) (v1 : Int32) (v2 : Int32) (v3 : Int32) (v4 : Int32) : mj_den mj_P E d 24 19 [Value.ref 169, Value.int v1, Value.int v2, Value.int v3, Value.int v4] [] (mj_hw w c hi hl) = if 0 ≤ v4 ∧ (v4).toNatClampNeg < 16 then if 0 ≤ v4 ∧ (v4).toNatClampNeg < 16 then if 0 ≤ v4 ∧ (v4).toNatClampNeg < 16 then some (none, (mj_hw w c (mj_u (mj_u (mj_u (mj_u hi 170 ((v4).toNatClampNeg) v1) 171 ((v4).toNatClampNeg) v2) 172 ((v4).toNatClampNeg) v3) 169 0 ((hi 169 0) + (1 : Int32))) hl)) else none else none else none := by
  rw [mj_den_eq, f24_19]
  exact zt_aload_n rfl rfl (zt_getr (mjkd169 _ _ _ _) (mjhr169_1 w c) rfl (zt_iload rfl rfl (zt_iload_n rfl rfl (zt_iast (mjkd170 _ _ _ _) (mjln170 _ _ _ _) rfl rfl (zt_aload_n rfl rfl (zt_getr (mjkd169 _ _ _ _) (mjhr169_2 w c) rfl (zt_iload rfl rfl (zt_iload_n rfl rfl (zt_iast (mjkd171 _ _ _ _) (mjln171 _ _ _ _) rfl rfl (zt_aload_n rfl rfl (zt_getr (mjkd169 _ _ _ _) (mjhr169_3 w c) rfl (zt_iload rfl rfl (zt_iload_n rfl rfl (zt_iast (mjkd172 _ _ _ _) (mjln172 _ _ _ _) rfl rfl (zt_aload_n rfl rfl (zt_dupr rfl (zt_geti (mjkd169 _ _ _ _) rfl rfl (zt_iconst rfl (zt_iadd rfl (zt_puti (mjkd169 _ _ _ _) rfl rfl (zt_return)))))))))))))))))))))
set_option maxRecDepth 100000 in
theorem f25_0 : mj_find (mj_P 25).2.2.2.2 0 = [(.aload_n 0, 1, 0, []), (.aload_n 1, 1, 0, []), (.getfield 9, 3, 0, [3, 0, 0, 325]), (.putfield 9, 3, 0, [3, 0, 0, 325]), (.aload_n 1, 1, 0, []), (.getfield 15, 3, 0, [3, 1, 3, 331]), (.aload_n 0, 1, 0, []), (.getfield 15, 3, 0, [3, 1, 3, 331]), (.invokestatic 25, 3, 0, [6, 149, 0, 2, 0, 1053, 725, 143, 726])] := rfl
set_option maxRecDepth 100000 in
theorem q25_0 (E : mj_E) (d w c : Nat) (hi : Nat → Nat → Int32) (hl : Nat → Nat → Int64) : mj_den mj_P E d 25 0 [Value.ref 67, Value.ref 22] [] (mj_hw w c hi hl) = mj_bv (mj_dc mj_P E d 149 [Value.ref 23, Value.ref 68] (mj_hw w c (mj_u hi 67 0 (hi 22 0)) hl)) (fun h1 => mj_den mj_P E d 25 19 [Value.ref 67, Value.ref 22] [] h1) := by
  rw [mj_den_eq, f25_0]
  exact zt_aload_n rfl rfl (zt_aload_n rfl rfl (zt_geti (mjkd22 _ _ _ _) rfl rfl (zt_puti (mjkd67 _ _ _ _) rfl rfl (zt_aload_n rfl rfl (zt_getr (mjkd22 _ _ _ _) (mjhr22_1 w c) rfl (zt_aload_n rfl rfl (zt_getr (mjkd67 _ _ _ _) (mjhr67_1 w c) rfl (zt_call6_0 (Nat.le_of_ble_eq_true rfl) rfl (Nat.le_of_ble_eq_true rfl) rfl rfl))))))))
set_option maxRecDepth 100000 in
theorem q25_0_1 (E : mj_E) (d w c : Nat) (hi : Nat → Nat → Int32) (hl : Nat → Nat → Int64) : mj_den mj_P E d 25 0 [Value.ref 71, Value.ref 26] [] (mj_hw w c hi hl) = mj_bv (mj_dc mj_P E d 149 [Value.ref 27, Value.ref 72] (mj_hw w c (mj_u hi 71 0 (hi 26 0)) hl)) (fun h1 => mj_den mj_P E d 25 19 [Value.ref 71, Value.ref 26] [] h1) := by
  rw [mj_den_eq, f25_0]
  exact zt_aload_n rfl rfl (zt_aload_n rfl rfl (zt_geti (mjkd26 _ _ _ _) rfl rfl (zt_puti (mjkd71 _ _ _ _) rfl rfl (zt_aload_n rfl rfl (zt_getr (mjkd26 _ _ _ _) (mjhr26_1 w c) rfl (zt_aload_n rfl rfl (zt_getr (mjkd71 _ _ _ _) (mjhr71_1 w c) rfl (zt_call6_0 (Nat.le_of_ble_eq_true rfl) rfl (Nat.le_of_ble_eq_true rfl) rfl rfl))))))))
set_option maxRecDepth 100000 in
theorem q25_0_2 (E : mj_E) (d w c : Nat) (hi : Nat → Nat → Int32) (hl : Nat → Nat → Int64) : mj_den mj_P E d 25 0 [Value.ref 75, Value.ref 30] [] (mj_hw w c hi hl) = mj_bv (mj_dc mj_P E d 149 [Value.ref 31, Value.ref 76] (mj_hw w c (mj_u hi 75 0 (hi 30 0)) hl)) (fun h1 => mj_den mj_P E d 25 19 [Value.ref 75, Value.ref 30] [] h1) := by
  rw [mj_den_eq, f25_0]
  exact zt_aload_n rfl rfl (zt_aload_n rfl rfl (zt_geti (mjkd30 _ _ _ _) rfl rfl (zt_puti (mjkd75 _ _ _ _) rfl rfl (zt_aload_n rfl rfl (zt_getr (mjkd30 _ _ _ _) (mjhr30_1 w c) rfl (zt_aload_n rfl rfl (zt_getr (mjkd75 _ _ _ _) (mjhr75_1 w c) rfl (zt_call6_0 (Nat.le_of_ble_eq_true rfl) rfl (Nat.le_of_ble_eq_true rfl) rfl rfl))))))))
set_option maxRecDepth 100000 in
theorem q25_0_3 (E : mj_E) (d w c : Nat) (hi : Nat → Nat → Int32) (hl : Nat → Nat → Int64) : mj_den mj_P E d 25 0 [Value.ref 22, Value.ref 67] [] (mj_hw w c hi hl) = mj_bv (mj_dc mj_P E d 149 [Value.ref 68, Value.ref 23] (mj_hw w c (mj_u hi 22 0 (hi 67 0)) hl)) (fun h1 => mj_den mj_P E d 25 19 [Value.ref 22, Value.ref 67] [] h1) := by
  rw [mj_den_eq, f25_0]
  exact zt_aload_n rfl rfl (zt_aload_n rfl rfl (zt_geti (mjkd67 _ _ _ _) rfl rfl (zt_puti (mjkd22 _ _ _ _) rfl rfl (zt_aload_n rfl rfl (zt_getr (mjkd67 _ _ _ _) (mjhr67_1 w c) rfl (zt_aload_n rfl rfl (zt_getr (mjkd22 _ _ _ _) (mjhr22_1 w c) rfl (zt_call6_0 (Nat.le_of_ble_eq_true rfl) rfl (Nat.le_of_ble_eq_true rfl) rfl rfl))))))))
set_option maxRecDepth 100000 in
theorem q25_0_4 (E : mj_E) (d w c : Nat) (hi : Nat → Nat → Int32) (hl : Nat → Nat → Int64) : mj_den mj_P E d 25 0 [Value.ref 26, Value.ref 71] [] (mj_hw w c hi hl) = mj_bv (mj_dc mj_P E d 149 [Value.ref 72, Value.ref 27] (mj_hw w c (mj_u hi 26 0 (hi 71 0)) hl)) (fun h1 => mj_den mj_P E d 25 19 [Value.ref 26, Value.ref 71] [] h1) := by
  rw [mj_den_eq, f25_0]
  exact zt_aload_n rfl rfl (zt_aload_n rfl rfl (zt_geti (mjkd71 _ _ _ _) rfl rfl (zt_puti (mjkd26 _ _ _ _) rfl rfl (zt_aload_n rfl rfl (zt_getr (mjkd71 _ _ _ _) (mjhr71_1 w c) rfl (zt_aload_n rfl rfl (zt_getr (mjkd26 _ _ _ _) (mjhr26_1 w c) rfl (zt_call6_0 (Nat.le_of_ble_eq_true rfl) rfl (Nat.le_of_ble_eq_true rfl) rfl rfl))))))))
set_option maxRecDepth 100000 in
theorem q25_0_5 (E : mj_E) (d w c : Nat) (hi : Nat → Nat → Int32) (hl : Nat → Nat → Int64) : mj_den mj_P E d 25 0 [Value.ref 30, Value.ref 75] [] (mj_hw w c hi hl) = mj_bv (mj_dc mj_P E d 149 [Value.ref 76, Value.ref 31] (mj_hw w c (mj_u hi 30 0 (hi 75 0)) hl)) (fun h1 => mj_den mj_P E d 25 19 [Value.ref 30, Value.ref 75] [] h1) := by
  rw [mj_den_eq, f25_0]
  exact zt_aload_n rfl rfl (zt_aload_n rfl rfl (zt_geti (mjkd75 _ _ _ _) rfl rfl (zt_puti (mjkd30 _ _ _ _) rfl rfl (zt_aload_n rfl rfl (zt_getr (mjkd75 _ _ _ _) (mjhr75_1 w c) rfl (zt_aload_n rfl rfl (zt_getr (mjkd30 _ _ _ _) (mjhr30_1 w c) rfl (zt_call6_0 (Nat.le_of_ble_eq_true rfl) rfl (Nat.le_of_ble_eq_true rfl) rfl rfl))))))))
set_option maxRecDepth 100000 in
theorem q25_0_6 (E : mj_E) (d w c : Nat) (hi : Nat → Nat → Int32) (hl : Nat → Nat → Int64) : mj_den mj_P E d 25 0 [Value.ref 30, Value.ref 169] [] (mj_hw w c hi hl) = mj_bv (mj_dc mj_P E d 149 [Value.ref 170, Value.ref 31] (mj_hw w c (mj_u hi 30 0 (hi 169 0)) hl)) (fun h1 => mj_den mj_P E d 25 19 [Value.ref 30, Value.ref 169] [] h1) := by
  rw [mj_den_eq, f25_0]
  exact zt_aload_n rfl rfl (zt_aload_n rfl rfl (zt_geti (mjkd169 _ _ _ _) rfl rfl (zt_puti (mjkd30 _ _ _ _) rfl rfl (zt_aload_n rfl rfl (zt_getr (mjkd169 _ _ _ _) (mjhr169_1 w c) rfl (zt_aload_n rfl rfl (zt_getr (mjkd30 _ _ _ _) (mjhr30_1 w c) rfl (zt_call6_0 (Nat.le_of_ble_eq_true rfl) rfl (Nat.le_of_ble_eq_true rfl) rfl rfl))))))))
set_option maxRecDepth 100000 in
theorem q25_0_7 (E : mj_E) (d w c : Nat) (hi : Nat → Nat → Int32) (hl : Nat → Nat → Int64) : mj_den mj_P E d 25 0 [Value.ref 26, Value.ref 169] [] (mj_hw w c hi hl) = mj_bv (mj_dc mj_P E d 149 [Value.ref 170, Value.ref 27] (mj_hw w c (mj_u hi 26 0 (hi 169 0)) hl)) (fun h1 => mj_den mj_P E d 25 19 [Value.ref 26, Value.ref 169] [] h1) := by
  rw [mj_den_eq, f25_0]
  exact zt_aload_n rfl rfl (zt_aload_n rfl rfl (zt_geti (mjkd169 _ _ _ _) rfl rfl (zt_puti (mjkd26 _ _ _ _) rfl rfl (zt_aload_n rfl rfl (zt_getr (mjkd169 _ _ _ _) (mjhr169_1 w c) rfl (zt_aload_n rfl rfl (zt_getr (mjkd26 _ _ _ _) (mjhr26_1 w c) rfl (zt_call6_0 (Nat.le_of_ble_eq_true rfl) rfl (Nat.le_of_ble_eq_true rfl) rfl rfl))))))))
set_option maxRecDepth 100000 in
theorem q25_0_8 (E : mj_E) (d w c : Nat) (hi : Nat → Nat → Int32) (hl : Nat → Nat → Int64) : mj_den mj_P E d 25 0 [Value.ref 22, Value.ref 169] [] (mj_hw w c hi hl) = mj_bv (mj_dc mj_P E d 149 [Value.ref 170, Value.ref 23] (mj_hw w c (mj_u hi 22 0 (hi 169 0)) hl)) (fun h1 => mj_den mj_P E d 25 19 [Value.ref 22, Value.ref 169] [] h1) := by
  rw [mj_den_eq, f25_0]
  exact zt_aload_n rfl rfl (zt_aload_n rfl rfl (zt_geti (mjkd169 _ _ _ _) rfl rfl (zt_puti (mjkd22 _ _ _ _) rfl rfl (zt_aload_n rfl rfl (zt_getr (mjkd169 _ _ _ _) (mjhr169_1 w c) rfl (zt_aload_n rfl rfl (zt_getr (mjkd22 _ _ _ _) (mjhr22_1 w c) rfl (zt_call6_0 (Nat.le_of_ble_eq_true rfl) rfl (Nat.le_of_ble_eq_true rfl) rfl rfl))))))))
set_option maxRecDepth 100000 in
theorem f25_19 : mj_find (mj_P 25).2.2.2.2 19 = [(.aload_n 1, 1, 0, []), (.getfield 19, 3, 0, [3, 2, 3, 333]), (.aload_n 0, 1, 0, []), (.getfield 19, 3, 0, [3, 2, 3, 333]), (.invokestatic 25, 3, 0, [6, 149, 0, 2, 0, 1053, 725, 143, 726])] := rfl
set_option maxRecDepth 100000 in
theorem q25_19 (E : mj_E) (d w c : Nat) (hi : Nat → Nat → Int32) (hl : Nat → Nat → Int64) : mj_den mj_P E d 25 19 [Value.ref 67, Value.ref 22] [] (mj_hw w c hi hl) = mj_bv (mj_dc mj_P E d 149 [Value.ref 24, Value.ref 69] (mj_hw w c hi hl)) (fun h1 => mj_den mj_P E d 25 30 [Value.ref 67, Value.ref 22] [] h1) := by
  rw [mj_den_eq, f25_19]
  exact zt_aload_n rfl rfl (zt_getr (mjkd22 _ _ _ _) (mjhr22_2 w c) rfl (zt_aload_n rfl rfl (zt_getr (mjkd67 _ _ _ _) (mjhr67_2 w c) rfl (zt_call6_0 (Nat.le_of_ble_eq_true rfl) rfl (Nat.le_of_ble_eq_true rfl) rfl rfl))))
set_option maxRecDepth 100000 in
theorem q25_19_1 (E : mj_E) (d w c : Nat) (hi : Nat → Nat → Int32) (hl : Nat → Nat → Int64) : mj_den mj_P E d 25 19 [Value.ref 71, Value.ref 26] [] (mj_hw w c hi hl) = mj_bv (mj_dc mj_P E d 149 [Value.ref 28, Value.ref 73] (mj_hw w c hi hl)) (fun h1 => mj_den mj_P E d 25 30 [Value.ref 71, Value.ref 26] [] h1) := by
  rw [mj_den_eq, f25_19]
  exact zt_aload_n rfl rfl (zt_getr (mjkd26 _ _ _ _) (mjhr26_2 w c) rfl (zt_aload_n rfl rfl (zt_getr (mjkd71 _ _ _ _) (mjhr71_2 w c) rfl (zt_call6_0 (Nat.le_of_ble_eq_true rfl) rfl (Nat.le_of_ble_eq_true rfl) rfl rfl))))
set_option maxRecDepth 100000 in
theorem q25_19_2 (E : mj_E) (d w c : Nat) (hi : Nat → Nat → Int32) (hl : Nat → Nat → Int64) : mj_den mj_P E d 25 19 [Value.ref 75, Value.ref 30] [] (mj_hw w c hi hl) = mj_bv (mj_dc mj_P E d 149 [Value.ref 32, Value.ref 77] (mj_hw w c hi hl)) (fun h1 => mj_den mj_P E d 25 30 [Value.ref 75, Value.ref 30] [] h1) := by
  rw [mj_den_eq, f25_19]
  exact zt_aload_n rfl rfl (zt_getr (mjkd30 _ _ _ _) (mjhr30_2 w c) rfl (zt_aload_n rfl rfl (zt_getr (mjkd75 _ _ _ _) (mjhr75_2 w c) rfl (zt_call6_0 (Nat.le_of_ble_eq_true rfl) rfl (Nat.le_of_ble_eq_true rfl) rfl rfl))))
set_option maxRecDepth 100000 in
theorem q25_19_3 (E : mj_E) (d w c : Nat) (hi : Nat → Nat → Int32) (hl : Nat → Nat → Int64) : mj_den mj_P E d 25 19 [Value.ref 22, Value.ref 67] [] (mj_hw w c hi hl) = mj_bv (mj_dc mj_P E d 149 [Value.ref 69, Value.ref 24] (mj_hw w c hi hl)) (fun h1 => mj_den mj_P E d 25 30 [Value.ref 22, Value.ref 67] [] h1) := by
  rw [mj_den_eq, f25_19]
  exact zt_aload_n rfl rfl (zt_getr (mjkd67 _ _ _ _) (mjhr67_2 w c) rfl (zt_aload_n rfl rfl (zt_getr (mjkd22 _ _ _ _) (mjhr22_2 w c) rfl (zt_call6_0 (Nat.le_of_ble_eq_true rfl) rfl (Nat.le_of_ble_eq_true rfl) rfl rfl))))
set_option maxRecDepth 100000 in
theorem q25_19_4 (E : mj_E) (d w c : Nat) (hi : Nat → Nat → Int32) (hl : Nat → Nat → Int64) : mj_den mj_P E d 25 19 [Value.ref 26, Value.ref 71] [] (mj_hw w c hi hl) = mj_bv (mj_dc mj_P E d 149 [Value.ref 73, Value.ref 28] (mj_hw w c hi hl)) (fun h1 => mj_den mj_P E d 25 30 [Value.ref 26, Value.ref 71] [] h1) := by
  rw [mj_den_eq, f25_19]
  exact zt_aload_n rfl rfl (zt_getr (mjkd71 _ _ _ _) (mjhr71_2 w c) rfl (zt_aload_n rfl rfl (zt_getr (mjkd26 _ _ _ _) (mjhr26_2 w c) rfl (zt_call6_0 (Nat.le_of_ble_eq_true rfl) rfl (Nat.le_of_ble_eq_true rfl) rfl rfl))))
set_option maxRecDepth 100000 in
theorem q25_19_5 (E : mj_E) (d w c : Nat) (hi : Nat → Nat → Int32) (hl : Nat → Nat → Int64) : mj_den mj_P E d 25 19 [Value.ref 30, Value.ref 75] [] (mj_hw w c hi hl) = mj_bv (mj_dc mj_P E d 149 [Value.ref 77, Value.ref 32] (mj_hw w c hi hl)) (fun h1 => mj_den mj_P E d 25 30 [Value.ref 30, Value.ref 75] [] h1) := by
  rw [mj_den_eq, f25_19]
  exact zt_aload_n rfl rfl (zt_getr (mjkd75 _ _ _ _) (mjhr75_2 w c) rfl (zt_aload_n rfl rfl (zt_getr (mjkd30 _ _ _ _) (mjhr30_2 w c) rfl (zt_call6_0 (Nat.le_of_ble_eq_true rfl) rfl (Nat.le_of_ble_eq_true rfl) rfl rfl))))
set_option maxRecDepth 100000 in
theorem q25_19_6 (E : mj_E) (d w c : Nat) (hi : Nat → Nat → Int32) (hl : Nat → Nat → Int64) : mj_den mj_P E d 25 19 [Value.ref 30, Value.ref 169] [] (mj_hw w c hi hl) = mj_bv (mj_dc mj_P E d 149 [Value.ref 171, Value.ref 32] (mj_hw w c hi hl)) (fun h1 => mj_den mj_P E d 25 30 [Value.ref 30, Value.ref 169] [] h1) := by
  rw [mj_den_eq, f25_19]
  exact zt_aload_n rfl rfl (zt_getr (mjkd169 _ _ _ _) (mjhr169_2 w c) rfl (zt_aload_n rfl rfl (zt_getr (mjkd30 _ _ _ _) (mjhr30_2 w c) rfl (zt_call6_0 (Nat.le_of_ble_eq_true rfl) rfl (Nat.le_of_ble_eq_true rfl) rfl rfl))))
set_option maxRecDepth 100000 in
theorem q25_19_7 (E : mj_E) (d w c : Nat) (hi : Nat → Nat → Int32) (hl : Nat → Nat → Int64) : mj_den mj_P E d 25 19 [Value.ref 26, Value.ref 169] [] (mj_hw w c hi hl) = mj_bv (mj_dc mj_P E d 149 [Value.ref 171, Value.ref 28] (mj_hw w c hi hl)) (fun h1 => mj_den mj_P E d 25 30 [Value.ref 26, Value.ref 169] [] h1) := by
  rw [mj_den_eq, f25_19]
  exact zt_aload_n rfl rfl (zt_getr (mjkd169 _ _ _ _) (mjhr169_2 w c) rfl (zt_aload_n rfl rfl (zt_getr (mjkd26 _ _ _ _) (mjhr26_2 w c) rfl (zt_call6_0 (Nat.le_of_ble_eq_true rfl) rfl (Nat.le_of_ble_eq_true rfl) rfl rfl))))
set_option maxRecDepth 100000 in
theorem q25_19_8 (E : mj_E) (d w c : Nat) (hi : Nat → Nat → Int32) (hl : Nat → Nat → Int64) : mj_den mj_P E d 25 19 [Value.ref 22, Value.ref 169] [] (mj_hw w c hi hl) = mj_bv (mj_dc mj_P E d 149 [Value.ref 171, Value.ref 24] (mj_hw w c hi hl)) (fun h1 => mj_den mj_P E d 25 30 [Value.ref 22, Value.ref 169] [] h1) := by
  rw [mj_den_eq, f25_19]
  exact zt_aload_n rfl rfl (zt_getr (mjkd169 _ _ _ _) (mjhr169_2 w c) rfl (zt_aload_n rfl rfl (zt_getr (mjkd22 _ _ _ _) (mjhr22_2 w c) rfl (zt_call6_0 (Nat.le_of_ble_eq_true rfl) rfl (Nat.le_of_ble_eq_true rfl) rfl rfl))))
set_option maxRecDepth 100000 in
theorem f25_30 : mj_find (mj_P 25).2.2.2.2 30 = [(.aload_n 1, 1, 0, []), (.getfield 22, 3, 0, [3, 3, 3, 338]), (.aload_n 0, 1, 0, []), (.getfield 22, 3, 0, [3, 3, 3, 338]), (.invokestatic 25, 3, 0, [6, 149, 0, 2, 0, 1053, 725, 143, 726])] := rfl
set_option maxRecDepth 100000 in
theorem q25_30 (E : mj_E) (d w c : Nat) (hi : Nat → Nat → Int32) (hl : Nat → Nat → Int64) : mj_den mj_P E d 25 30 [Value.ref 67, Value.ref 22] [] (mj_hw w c hi hl) = mj_bv (mj_dc mj_P E d 149 [Value.ref 25, Value.ref 70] (mj_hw w c hi hl)) (fun h1 => mj_den mj_P E d 25 41 [Value.ref 67, Value.ref 22] [] h1) := by
  rw [mj_den_eq, f25_30]
  exact zt_aload_n rfl rfl (zt_getr (mjkd22 _ _ _ _) (mjhr22_3 w c) rfl (zt_aload_n rfl rfl (zt_getr (mjkd67 _ _ _ _) (mjhr67_3 w c) rfl (zt_call6_0 (Nat.le_of_ble_eq_true rfl) rfl (Nat.le_of_ble_eq_true rfl) rfl rfl))))
set_option maxRecDepth 100000 in
theorem q25_30_1 (E : mj_E) (d w c : Nat) (hi : Nat → Nat → Int32) (hl : Nat → Nat → Int64) : mj_den mj_P E d 25 30 [Value.ref 71, Value.ref 26] [] (mj_hw w c hi hl) = mj_bv (mj_dc mj_P E d 149 [Value.ref 29, Value.ref 74] (mj_hw w c hi hl)) (fun h1 => mj_den mj_P E d 25 41 [Value.ref 71, Value.ref 26] [] h1) := by
  rw [mj_den_eq, f25_30]
  exact zt_aload_n rfl rfl (zt_getr (mjkd26 _ _ _ _) (mjhr26_3 w c) rfl (zt_aload_n rfl rfl (zt_getr (mjkd71 _ _ _ _) (mjhr71_3 w c) rfl (zt_call6_0 (Nat.le_of_ble_eq_true rfl) rfl (Nat.le_of_ble_eq_true rfl) rfl rfl))))
set_option maxRecDepth 100000 in
theorem q25_30_2 (E : mj_E) (d w c : Nat) (hi : Nat → Nat → Int32) (hl : Nat → Nat → Int64) : mj_den mj_P E d 25 30 [Value.ref 75, Value.ref 30] [] (mj_hw w c hi hl) = mj_bv (mj_dc mj_P E d 149 [Value.ref 33, Value.ref 78] (mj_hw w c hi hl)) (fun h1 => mj_den mj_P E d 25 41 [Value.ref 75, Value.ref 30] [] h1) := by
  rw [mj_den_eq, f25_30]
  exact zt_aload_n rfl rfl (zt_getr (mjkd30 _ _ _ _) (mjhr30_3 w c) rfl (zt_aload_n rfl rfl (zt_getr (mjkd75 _ _ _ _) (mjhr75_3 w c) rfl (zt_call6_0 (Nat.le_of_ble_eq_true rfl) rfl (Nat.le_of_ble_eq_true rfl) rfl rfl))))
set_option maxRecDepth 100000 in
theorem q25_30_3 (E : mj_E) (d w c : Nat) (hi : Nat → Nat → Int32) (hl : Nat → Nat → Int64) : mj_den mj_P E d 25 30 [Value.ref 22, Value.ref 67] [] (mj_hw w c hi hl) = mj_bv (mj_dc mj_P E d 149 [Value.ref 70, Value.ref 25] (mj_hw w c hi hl)) (fun h1 => mj_den mj_P E d 25 41 [Value.ref 22, Value.ref 67] [] h1) := by
  rw [mj_den_eq, f25_30]
  exact zt_aload_n rfl rfl (zt_getr (mjkd67 _ _ _ _) (mjhr67_3 w c) rfl (zt_aload_n rfl rfl (zt_getr (mjkd22 _ _ _ _) (mjhr22_3 w c) rfl (zt_call6_0 (Nat.le_of_ble_eq_true rfl) rfl (Nat.le_of_ble_eq_true rfl) rfl rfl))))
set_option maxRecDepth 100000 in
theorem q25_30_4 (E : mj_E) (d w c : Nat) (hi : Nat → Nat → Int32) (hl : Nat → Nat → Int64) : mj_den mj_P E d 25 30 [Value.ref 26, Value.ref 71] [] (mj_hw w c hi hl) = mj_bv (mj_dc mj_P E d 149 [Value.ref 74, Value.ref 29] (mj_hw w c hi hl)) (fun h1 => mj_den mj_P E d 25 41 [Value.ref 26, Value.ref 71] [] h1) := by
  rw [mj_den_eq, f25_30]
  exact zt_aload_n rfl rfl (zt_getr (mjkd71 _ _ _ _) (mjhr71_3 w c) rfl (zt_aload_n rfl rfl (zt_getr (mjkd26 _ _ _ _) (mjhr26_3 w c) rfl (zt_call6_0 (Nat.le_of_ble_eq_true rfl) rfl (Nat.le_of_ble_eq_true rfl) rfl rfl))))
set_option maxRecDepth 100000 in
theorem q25_30_5 (E : mj_E) (d w c : Nat) (hi : Nat → Nat → Int32) (hl : Nat → Nat → Int64) : mj_den mj_P E d 25 30 [Value.ref 30, Value.ref 75] [] (mj_hw w c hi hl) = mj_bv (mj_dc mj_P E d 149 [Value.ref 78, Value.ref 33] (mj_hw w c hi hl)) (fun h1 => mj_den mj_P E d 25 41 [Value.ref 30, Value.ref 75] [] h1) := by
  rw [mj_den_eq, f25_30]
  exact zt_aload_n rfl rfl (zt_getr (mjkd75 _ _ _ _) (mjhr75_3 w c) rfl (zt_aload_n rfl rfl (zt_getr (mjkd30 _ _ _ _) (mjhr30_3 w c) rfl (zt_call6_0 (Nat.le_of_ble_eq_true rfl) rfl (Nat.le_of_ble_eq_true rfl) rfl rfl))))
set_option maxRecDepth 100000 in
theorem q25_30_6 (E : mj_E) (d w c : Nat) (hi : Nat → Nat → Int32) (hl : Nat → Nat → Int64) : mj_den mj_P E d 25 30 [Value.ref 30, Value.ref 169] [] (mj_hw w c hi hl) = mj_bv (mj_dc mj_P E d 149 [Value.ref 172, Value.ref 33] (mj_hw w c hi hl)) (fun h1 => mj_den mj_P E d 25 41 [Value.ref 30, Value.ref 169] [] h1) := by
  rw [mj_den_eq, f25_30]
  exact zt_aload_n rfl rfl (zt_getr (mjkd169 _ _ _ _) (mjhr169_3 w c) rfl (zt_aload_n rfl rfl (zt_getr (mjkd30 _ _ _ _) (mjhr30_3 w c) rfl (zt_call6_0 (Nat.le_of_ble_eq_true rfl) rfl (Nat.le_of_ble_eq_true rfl) rfl rfl))))
set_option maxRecDepth 100000 in
theorem q25_30_7 (E : mj_E) (d w c : Nat) (hi : Nat → Nat → Int32) (hl : Nat → Nat → Int64) : mj_den mj_P E d 25 30 [Value.ref 26, Value.ref 169] [] (mj_hw w c hi hl) = mj_bv (mj_dc mj_P E d 149 [Value.ref 172, Value.ref 29] (mj_hw w c hi hl)) (fun h1 => mj_den mj_P E d 25 41 [Value.ref 26, Value.ref 169] [] h1) := by
  rw [mj_den_eq, f25_30]
  exact zt_aload_n rfl rfl (zt_getr (mjkd169 _ _ _ _) (mjhr169_3 w c) rfl (zt_aload_n rfl rfl (zt_getr (mjkd26 _ _ _ _) (mjhr26_3 w c) rfl (zt_call6_0 (Nat.le_of_ble_eq_true rfl) rfl (Nat.le_of_ble_eq_true rfl) rfl rfl))))
set_option maxRecDepth 100000 in
theorem q25_30_8 (E : mj_E) (d w c : Nat) (hi : Nat → Nat → Int32) (hl : Nat → Nat → Int64) : mj_den mj_P E d 25 30 [Value.ref 22, Value.ref 169] [] (mj_hw w c hi hl) = mj_bv (mj_dc mj_P E d 149 [Value.ref 172, Value.ref 25] (mj_hw w c hi hl)) (fun h1 => mj_den mj_P E d 25 41 [Value.ref 22, Value.ref 169] [] h1) := by
  rw [mj_den_eq, f25_30]
  exact zt_aload_n rfl rfl (zt_getr (mjkd169 _ _ _ _) (mjhr169_3 w c) rfl (zt_aload_n rfl rfl (zt_getr (mjkd22 _ _ _ _) (mjhr22_3 w c) rfl (zt_call6_0 (Nat.le_of_ble_eq_true rfl) rfl (Nat.le_of_ble_eq_true rfl) rfl rfl))))
set_option maxRecDepth 100000 in
theorem f25_41 : mj_find (mj_P 25).2.2.2.2 41 = [(.return_, 1, 0, [])] := rfl
set_option maxRecDepth 100000 in
theorem q25_41 (E : mj_E) (d w c : Nat) (hi : Nat → Nat → Int32) (hl : Nat → Nat → Int64) : mj_den mj_P E d 25 41 [Value.ref 67, Value.ref 22] [] (mj_hw w c hi hl) = some (none, (mj_hw w c hi hl)) := by
  rw [mj_den_eq, f25_41]
  exact zt_return
set_option maxRecDepth 100000 in
theorem q25_41_1 (E : mj_E) (d w c : Nat) (hi : Nat → Nat → Int32) (hl : Nat → Nat → Int64) : mj_den mj_P E d 25 41 [Value.ref 71, Value.ref 26] [] (mj_hw w c hi hl) = some (none, (mj_hw w c hi hl)) := by
  rw [mj_den_eq, f25_41]
  exact zt_return
set_option maxRecDepth 100000 in
theorem q25_41_2 (E : mj_E) (d w c : Nat) (hi : Nat → Nat → Int32) (hl : Nat → Nat → Int64) : mj_den mj_P E d 25 41 [Value.ref 75, Value.ref 30] [] (mj_hw w c hi hl) = some (none, (mj_hw w c hi hl)) := by
  rw [mj_den_eq, f25_41]
  exact zt_return
set_option maxRecDepth 100000 in
theorem q25_41_3 (E : mj_E) (d w c : Nat) (hi : Nat → Nat → Int32) (hl : Nat → Nat → Int64) : mj_den mj_P E d 25 41 [Value.ref 22, Value.ref 67] [] (mj_hw w c hi hl) = some (none, (mj_hw w c hi hl)) := by
  rw [mj_den_eq, f25_41]
  exact zt_return
set_option maxRecDepth 100000 in
theorem q25_41_4 (E : mj_E) (d w c : Nat) (hi : Nat → Nat → Int32) (hl : Nat → Nat → Int64) : mj_den mj_P E d 25 41 [Value.ref 26, Value.ref 71] [] (mj_hw w c hi hl) = some (none, (mj_hw w c hi hl)) := by
  rw [mj_den_eq, f25_41]
  exact zt_return
set_option maxRecDepth 100000 in
theorem q25_41_5 (E : mj_E) (d w c : Nat) (hi : Nat → Nat → Int32) (hl : Nat → Nat → Int64) : mj_den mj_P E d 25 41 [Value.ref 30, Value.ref 75] [] (mj_hw w c hi hl) = some (none, (mj_hw w c hi hl)) := by
  rw [mj_den_eq, f25_41]
  exact zt_return
set_option maxRecDepth 100000 in
theorem q25_41_6 (E : mj_E) (d w c : Nat) (hi : Nat → Nat → Int32) (hl : Nat → Nat → Int64) : mj_den mj_P E d 25 41 [Value.ref 30, Value.ref 169] [] (mj_hw w c hi hl) = some (none, (mj_hw w c hi hl)) := by
  rw [mj_den_eq, f25_41]
  exact zt_return
set_option maxRecDepth 100000 in
theorem q25_41_7 (E : mj_E) (d w c : Nat) (hi : Nat → Nat → Int32) (hl : Nat → Nat → Int64) : mj_den mj_P E d 25 41 [Value.ref 26, Value.ref 169] [] (mj_hw w c hi hl) = some (none, (mj_hw w c hi hl)) := by
  rw [mj_den_eq, f25_41]
  exact zt_return
set_option maxRecDepth 100000 in
theorem q25_41_8 (E : mj_E) (d w c : Nat) (hi : Nat → Nat → Int32) (hl : Nat → Nat → Int64) : mj_den mj_P E d 25 41 [Value.ref 22, Value.ref 169] [] (mj_hw w c hi hl) = some (none, (mj_hw w c hi hl)) := by
  rw [mj_den_eq, f25_41]
  exact zt_return
