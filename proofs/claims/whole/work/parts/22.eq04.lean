set_option maxRecDepth 100000 in
theorem f62_0 : mj_find (mj_P 62).2.2.2.2 0 = [(.iconst 0, 1, 0, []), (.istore_n 3, 1, 0, [])] := rfl
set_option maxRecDepth 100000 in
theorem q62_0 (E : mj_E) (d w c : Nat) (hi : Nat → Nat → Int32) (hl : Nat → Nat → Int64) (v1 : Int32) (v2 : Int32) : mj_den mj_P E d 62 0 [Value.ref 159, Value.int v1, Value.int v2, Value.float 0, Value.float 0] [] (mj_hw w c hi hl) = mj_den mj_P E d 62 2 [Value.ref 159, Value.int v1, Value.int v2, Value.int (0 : Int32), Value.float 0] [] (mj_hw w c hi hl) := by
  rw [mj_den_eq, f62_0]
  exact zt_iconst rfl (zt_istore_n (Nat.le_of_ble_eq_true rfl) rfl rfl (zt_end rfl))
set_option maxRecDepth 100000 in
theorem f62_2 : mj_find (mj_P 62).2.2.2.2 2 = [(.iload_n 3, 1, 0, []), (.sipush 400, 3, 400, []), (.if_icmp .gt 81, 3, 0, [87]), (.iload_n 1, 1, 0, []), (.ifCond .ne 12, 3, 0, [22]), (.aload_n 0, 1, 0, []), (.iconst 1, 1, 1, []), (.iload_n 2, 1, 0, []), (.invokevirtual 164, 3, 0, [0, 62, 6, 2, 1, 1008, 1010, 17, 150, 1011])] := rfl
set_option maxRecDepth 100000 in
theorem q62_2 (E : mj_E) (d w c : Nat) (hi : Nat → Nat → Int32) (hl : Nat → Nat → Int64) (v1 : Int32) (v2 : Int32) (v3 : Int32) : mj_den mj_P E d 62 2 [Value.ref 159, Value.int v1, Value.int v2, Value.int v3, Value.float 0] [] (mj_hw w c hi hl) = if (400 : Int32) < v3 then mj_den mj_P E d 62 87 [Value.ref 159, Value.int v1, Value.int v2, Value.int v3, Value.float 0] [] (mj_hw w c hi hl) else if ¬ v1 = 0 then mj_den mj_P E d 62 22 [Value.ref 159, Value.int v1, Value.int v2, Value.int v3, Value.float 0] [] (mj_hw w c hi hl) else mj_bi (mj_dc mj_P E d 62 [Value.ref 159, Value.int (1 : Int32), Value.int v2] (mj_hw w c hi hl)) (fun x1 h1 => mj_den mj_P E d 62 19 [Value.ref 159, Value.int v1, Value.int v2, Value.int v3, Value.float 0] [Value.int x1] h1) := by
  rw [mj_den_eq, f62_2]
  exact zt_iload_n rfl rfl (zt_sipush rfl (zt_icmp_gt rfl rfl (zt_iload_n rfl rfl (zt_if_ne rfl rfl (zt_aload_n rfl rfl (zt_iconst rfl (zt_iload_n rfl rfl (zt_call0_1 rfl (mjkd159 _ _ _ _) (Nat.le_of_ble_eq_true rfl) rfl rfl))))))))
set_option maxRecDepth 100000 in
theorem q62_2_1 (E : mj_E) (d w c : Nat) (hi : Nat → Nat → Int32) (hl : Nat → Nat → Int64) (v1 : Int32) (v2 : Int32) (v3 : Int32) (v4 : Int32) : mj_den mj_P E d 62 2 [Value.ref 159, Value.int v1, Value.int v2, Value.int v3, Value.int v4] [] (mj_hw w c hi hl) = if (400 : Int32) < v3 then mj_den mj_P E d 62 87 [Value.ref 159, Value.int v1, Value.int v2, Value.int v3, Value.int v4] [] (mj_hw w c hi hl) else if ¬ v1 = 0 then mj_den mj_P E d 62 22 [Value.ref 159, Value.int v1, Value.int v2, Value.int v3, Value.int v4] [] (mj_hw w c hi hl) else mj_bi (mj_dc mj_P E d 62 [Value.ref 159, Value.int (1 : Int32), Value.int v2] (mj_hw w c hi hl)) (fun x1 h1 => mj_den mj_P E d 62 19 [Value.ref 159, Value.int v1, Value.int v2, Value.int v3, Value.int v4] [Value.int x1] h1) := by
  rw [mj_den_eq, f62_2]
  exact zt_iload_n rfl rfl (zt_sipush rfl (zt_icmp_gt rfl rfl (zt_iload_n rfl rfl (zt_if_ne rfl rfl (zt_aload_n rfl rfl (zt_iconst rfl (zt_iload_n rfl rfl (zt_call0_1 rfl (mjkd159 _ _ _ _) (Nat.le_of_ble_eq_true rfl) rfl rfl))))))))
set_option maxRecDepth 100000 in
theorem f62_19 : mj_find (mj_P 62).2.2.2.2 19 = [(.goto 8, 3, 0, [27])] := rfl
set_option maxRecDepth 100000 in
theorem q62_19 (E : mj_E) (d w c : Nat) (hi : Nat → Nat → Int32) (hl : Nat → Nat → Int64) (v1 : Int32) (v2 : Int32) (v3 : Int32) (s0 : Int32) : mj_den mj_P E d 62 19 [Value.ref 159, Value.int v1, Value.int v2, Value.int v3, Value.float 0] [Value.int s0] (mj_hw w c hi hl) = mj_den mj_P E d 62 27 [Value.ref 159, Value.int v1, Value.int v2, Value.int v3, Value.float 0] [Value.int s0] (mj_hw w c hi hl) := by
  rw [mj_den_eq, f62_19]
  exact zt_goto rfl
set_option maxRecDepth 100000 in
theorem q62_19_1 (E : mj_E) (d w c : Nat) (hi : Nat → Nat → Int32) (hl : Nat → Nat → Int64) (v1 : Int32) (v2 : Int32) (v3 : Int32) (v4 : Int32) (s0 : Int32) : mj_den mj_P E d 62 19 [Value.ref 159, Value.int v1, Value.int v2, Value.int v3, Value.int v4] [Value.int s0] (mj_hw w c hi hl) = mj_den mj_P E d 62 27 [Value.ref 159, Value.int v1, Value.int v2, Value.int v3, Value.int v4] [Value.int s0] (mj_hw w c hi hl) := by
  rw [mj_den_eq, f62_19]
  exact zt_goto rfl
set_option maxRecDepth 100000 in
theorem f62_22 : mj_find (mj_P 62).2.2.2.2 22 = [(.aload_n 0, 1, 0, []), (.iload_n 2, 1, 0, []), (.invokevirtual 171, 3, 0, [0, 63, 6, 1, 1, 1012, 1014, 18, 150, 1015])] := rfl
set_option maxRecDepth 100000 in
theorem q62_22 (E : mj_E) (d w c : Nat) (hi : Nat → Nat → Int32) (hl : Nat → Nat → Int64) (v1 : Int32) (v2 : Int32) (v3 : Int32) (v4 : Int32) : mj_den mj_P E d 62 22 [Value.ref 159, Value.int v1, Value.int v2, Value.int v3, Value.int v4] [] (mj_hw w c hi hl) = mj_bi (mj_dc mj_P E d 63 [Value.ref 159, Value.int v2] (mj_hw w c hi hl)) (fun x1 h1 => mj_den mj_P E d 62 27 [Value.ref 159, Value.int v1, Value.int v2, Value.int v3, Value.int v4] [Value.int x1] h1) := by
  rw [mj_den_eq, f62_22]
  exact zt_aload_n rfl rfl (zt_iload_n rfl rfl (zt_call0_1 rfl (mjkd159 _ _ _ _) (Nat.le_of_ble_eq_true rfl) rfl rfl))
set_option maxRecDepth 100000 in
theorem q62_22_1 (E : mj_E) (d w c : Nat) (hi : Nat → Nat → Int32) (hl : Nat → Nat → Int64) (v1 : Int32) (v2 : Int32) (v3 : Int32) : mj_den mj_P E d 62 22 [Value.ref 159, Value.int v1, Value.int v2, Value.int v3, Value.float 0] [] (mj_hw w c hi hl) = mj_bi (mj_dc mj_P E d 63 [Value.ref 159, Value.int v2] (mj_hw w c hi hl)) (fun x1 h1 => mj_den mj_P E d 62 27 [Value.ref 159, Value.int v1, Value.int v2, Value.int v3, Value.float 0] [Value.int x1] h1) := by
  rw [mj_den_eq, f62_22]
  exact zt_aload_n rfl rfl (zt_iload_n rfl rfl (zt_call0_1 rfl (mjkd159 _ _ _ _) (Nat.le_of_ble_eq_true rfl) rfl rfl))
set_option maxRecDepth 100000 in
theorem f62_27 : mj_find (mj_P 62).2.2.2.2 27 = [(.istore 4, 2, 0, []), (.iload 4, 2, 0, []), (.ifCond .ne 5, 3, 0, [36]), (.iconst 0, 1, 0, []), (.ireturn, 1, 0, [1])] := rfl
set_option maxRecDepth 100000 in
theorem q62_27 (E : mj_E) (d w c : Nat) (hi : Nat → Nat → Int32) (hl : Nat → Nat → Int64) (v1 : Int32) (v2 : Int32) (v3 : Int32) (s0 : Int32) : mj_den mj_P E d 62 27 [Value.ref 159, Value.int v1, Value.int v2, Value.int v3, Value.float 0] [Value.int s0] (mj_hw w c hi hl) = if ¬ s0 = 0 then mj_den mj_P E d 62 36 [Value.ref 159, Value.int v1, Value.int v2, Value.int v3, Value.int s0] [] (mj_hw w c hi hl) else if (0 : Int32) = 0 ∨ (0 : Int32) = 1 then some (some (Value.int (0 : Int32)), (mj_hw w c hi hl)) else none := by
  rw [mj_den_eq, f62_27]
  exact zt_istore (Nat.le_of_ble_eq_true rfl) rfl rfl (zt_iload rfl rfl (zt_if_ne rfl rfl (zt_iconst rfl (zt_ireturn1))))
set_option maxRecDepth 100000 in
theorem q62_27_1 (E : mj_E) (d w c : Nat) (hi : Nat → Nat → Int32) (hl : Nat → Nat → Int64) (v1 : Int32) (v2 : Int32) (v3 : Int32) (v4 : Int32) (s0 : Int32) : mj_den mj_P E d 62 27 [Value.ref 159, Value.int v1, Value.int v2, Value.int v3, Value.int v4] [Value.int s0] (mj_hw w c hi hl) = if ¬ s0 = 0 then mj_den mj_P E d 62 36 [Value.ref 159, Value.int v1, Value.int v2, Value.int v3, Value.int s0] [] (mj_hw w c hi hl) else if (0 : Int32) = 0 ∨ (0 : Int32) = 1 then some (some (Value.int (0 : Int32)), (mj_hw w c hi hl)) else none := by
  rw [mj_den_eq, f62_27]
  exact zt_istore (Nat.le_of_ble_eq_true rfl) rfl rfl (zt_iload rfl rfl (zt_if_ne rfl rfl (zt_iconst rfl (zt_ireturn1))))
set_option maxRecDepth 100000 in
theorem f62_36 : mj_find (mj_P 62).2.2.2.2 36 = [(.iload_n 3, 1, 0, []), (.ifCond .le 22, 3, 0, [59]), (.aload_n 0, 1, 0, []), (.getfield 24, 3, 0, [6, 3, 3, 490]), (.iload_n 1, 1, 0, []), (.ifCond .ne 8, 3, 0, [53]), (.bipush 20, 2, 20, []), (.goto 5, 3, 0, [55])] := rfl
set_option maxRecDepth 100000 in
theorem q62_36 (E : mj_E) (d w c : Nat) (hi : Nat → Nat → Int32) (hl : Nat → Nat → Int64) (v1 : Int32) (v2 : Int32) (v3 : Int32) (v4 : Int32) : mj_den mj_P E d 62 36 [Value.ref 159, Value.int v1, Value.int v2, Value.int v3, Value.int v4] [] (mj_hw w c hi hl) = if v3 ≤ 0 then mj_den mj_P E d 62 59 [Value.ref 159, Value.int v1, Value.int v2, Value.int v3, Value.int v4] [] (mj_hw w c hi hl) else if ¬ v1 = 0 then mj_den mj_P E d 62 53 [Value.ref 159, Value.int v1, Value.int v2, Value.int v3, Value.int v4] [Value.ref 160] (mj_hw w c hi hl) else mj_den mj_P E d 62 55 [Value.ref 159, Value.int v1, Value.int v2, Value.int v3, Value.int v4] [Value.int (20 : Int32), Value.ref 160] (mj_hw w c hi hl) := by
  rw [mj_den_eq, f62_36]
  exact zt_iload_n rfl rfl (zt_if_le rfl rfl (zt_aload_n rfl rfl (zt_getr (mjkd159 _ _ _ _) (mjhr159_3 w c) rfl (zt_iload_n rfl rfl (zt_if_ne rfl rfl (zt_bipush rfl (zt_goto rfl)))))))
set_option maxRecDepth 100000 in
theorem f62_53 : mj_find (mj_P 62).2.2.2.2 53 = [(.bipush 19, 2, 19, [])] := rfl
set_option maxRecDepth 100000 in
theorem q62_53 (E : mj_E) (d w c : Nat) (hi : Nat → Nat → Int32) (hl : Nat → Nat → Int64) (v1 : Int32) (v2 : Int32) (v3 : Int32) (v4 : Int32) : mj_den mj_P E d 62 53 [Value.ref 159, Value.int v1, Value.int v2, Value.int v3, Value.int v4] [Value.ref 160] (mj_hw w c hi hl) = mj_den mj_P E d 62 55 [Value.ref 159, Value.int v1, Value.int v2, Value.int v3, Value.int v4] [Value.int (19 : Int32), Value.ref 160] (mj_hw w c hi hl) := by
  rw [mj_den_eq, f62_53]
  exact zt_bipush rfl (zt_end rfl)
set_option maxRecDepth 100000 in
theorem f62_55 : mj_find (mj_P 62).2.2.2.2 55 = [(.iconst 0, 1, 0, []), (.invokevirtual 174, 3, 0, [0, 17, 2, 2, 0, 996, 997, 998, 146, 999])] := rfl
set_option maxRecDepth 100000 in
theorem q62_55 (E : mj_E) (d w c : Nat) (hi : Nat → Nat → Int32) (hl : Nat → Nat → Int64) (v1 : Int32) (v2 : Int32) (v3 : Int32) (v4 : Int32) (s0 : Int32) : mj_den mj_P E d 62 55 [Value.ref 159, Value.int v1, Value.int v2, Value.int v3, Value.int v4] [Value.int s0, Value.ref 160] (mj_hw w c hi hl) = mj_bv (mj_dc mj_P E d 17 [Value.ref 160, Value.int s0, Value.int (0 : Int32)] (mj_hw w c hi hl)) (fun h1 => mj_den mj_P E d 62 59 [Value.ref 159, Value.int v1, Value.int v2, Value.int v3, Value.int v4] [] h1) := by
  rw [mj_den_eq, f62_55]
  exact zt_iconst rfl (zt_call0_0 rfl (mjkd160 _ _ _ _) (Nat.le_of_ble_eq_true rfl) rfl rfl)
set_option maxRecDepth 100000 in
theorem f62_59 : mj_find (mj_P 62).2.2.2.2 59 = [(.aload_n 0, 1, 0, []), (.iload_n 1, 1, 0, []), (.ifCond .ne 7, 3, 0, [68]), (.iconst 4, 1, 4, []), (.goto 4, 3, 0, [69])] := rfl
set_option maxRecDepth 100000 in
theorem q62_59 (E : mj_E) (d w c : Nat) (hi : Nat → Nat → Int32) (hl : Nat → Nat → Int64) (v1 : Int32) (v2 : Int32) (v3 : Int32) (v4 : Int32) : mj_den mj_P E d 62 59 [Value.ref 159, Value.int v1, Value.int v2, Value.int v3, Value.int v4] [] (mj_hw w c hi hl) = if ¬ v1 = 0 then mj_den mj_P E d 62 68 [Value.ref 159, Value.int v1, Value.int v2, Value.int v3, Value.int v4] [Value.ref 159] (mj_hw w c hi hl) else mj_den mj_P E d 62 69 [Value.ref 159, Value.int v1, Value.int v2, Value.int v3, Value.int v4] [Value.int (4 : Int32), Value.ref 159] (mj_hw w c hi hl) := by
  rw [mj_den_eq, f62_59]
  exact zt_aload_n rfl rfl (zt_iload_n rfl rfl (zt_if_ne rfl rfl (zt_iconst rfl (zt_goto rfl))))
set_option maxRecDepth 100000 in
theorem f62_68 : mj_find (mj_P 62).2.2.2.2 68 = [(.iconst 5, 1, 5, [])] := rfl
set_option maxRecDepth 100000 in
theorem q62_68 (E : mj_E) (d w c : Nat) (hi : Nat → Nat → Int32) (hl : Nat → Nat → Int64) (v1 : Int32) (v2 : Int32) (v3 : Int32) (v4 : Int32) : mj_den mj_P E d 62 68 [Value.ref 159, Value.int v1, Value.int v2, Value.int v3, Value.int v4] [Value.ref 159] (mj_hw w c hi hl) = mj_den mj_P E d 62 69 [Value.ref 159, Value.int v1, Value.int v2, Value.int v3, Value.int v4] [Value.int (5 : Int32), Value.ref 159] (mj_hw w c hi hl) := by
  rw [mj_den_eq, f62_68]
  exact zt_iconst rfl (zt_end rfl)
set_option maxRecDepth 100000 in
theorem f62_69 : mj_find (mj_P 62).2.2.2.2 69 = [(.invokevirtual 161, 3, 0, [0, 57, 6, 1, 1, 1004, 1006, 16, 150, 1007])] := rfl
set_option maxRecDepth 100000 in
theorem q62_69 (E : mj_E) (d w c : Nat) (hi : Nat → Nat → Int32) (hl : Nat → Nat → Int64) (v1 : Int32) (v2 : Int32) (v3 : Int32) (v4 : Int32) (s0 : Int32) : mj_den mj_P E d 62 69 [Value.ref 159, Value.int v1, Value.int v2, Value.int v3, Value.int v4] [Value.int s0, Value.ref 159] (mj_hw w c hi hl) = mj_bi (mj_dc mj_P E d 57 [Value.ref 159, Value.int s0] (mj_hw w c hi hl)) (fun x1 h1 => mj_den mj_P E d 62 72 [Value.ref 159, Value.int v1, Value.int v2, Value.int v3, Value.int v4] [Value.int x1] h1) := by
  rw [mj_den_eq, f62_69]
  exact zt_call0_1 rfl (mjkd159 _ _ _ _) (Nat.le_of_ble_eq_true rfl) rfl rfl
set_option maxRecDepth 100000 in
theorem f62_72 : mj_find (mj_P 62).2.2.2.2 72 = [(.ifCond .ne 5, 3, 0, [77]), (.iconst 1, 1, 1, []), (.ireturn, 1, 0, [1])] := rfl
set_option maxRecDepth 100000 in
theorem q62_72 (E : mj_E) (d w c : Nat) (hi : Nat → Nat → Int32) (hl : Nat → Nat → Int64) (v1 : Int32) (v2 : Int32) (v3 : Int32) (v4 : Int32) (s0 : Int32) : mj_den mj_P E d 62 72 [Value.ref 159, Value.int v1, Value.int v2, Value.int v3, Value.int v4] [Value.int s0] (mj_hw w c hi hl) = if ¬ s0 = 0 then mj_den mj_P E d 62 77 [Value.ref 159, Value.int v1, Value.int v2, Value.int v3, Value.int v4] [] (mj_hw w c hi hl) else if (1 : Int32) = 0 ∨ (1 : Int32) = 1 then some (some (Value.int (1 : Int32)), (mj_hw w c hi hl)) else none := by
  rw [mj_den_eq, f62_72]
  exact zt_if_ne rfl rfl (zt_iconst rfl (zt_ireturn1))
set_option maxRecDepth 100000 in
theorem f62_77 : mj_find (mj_P 62).2.2.2.2 77 = [(.aload_n 0, 1, 0, []), (.invokevirtual 91, 3, 0, [0, 55, 6, 0, 0, 976, 978, 10, 150, 979])] := rfl
set_option maxRecDepth 100000 in
theorem q62_77 (E : mj_E) (d w c : Nat) (hi : Nat → Nat → Int32) (hl : Nat → Nat → Int64) (v1 : Int32) (v2 : Int32) (v3 : Int32) (v4 : Int32) : mj_den mj_P E d 62 77 [Value.ref 159, Value.int v1, Value.int v2, Value.int v3, Value.int v4] [] (mj_hw w c hi hl) = mj_bv (mj_dc mj_P E d 55 [Value.ref 159] (mj_hw w c hi hl)) (fun h1 => mj_den mj_P E d 62 81 [Value.ref 159, Value.int v1, Value.int v2, Value.int v3, Value.int v4] [] h1) := by
  rw [mj_den_eq, f62_77]
  exact zt_aload_n rfl rfl (zt_call0_0 rfl (mjkd159 _ _ _ _) (Nat.le_of_ble_eq_true rfl) rfl rfl)
set_option maxRecDepth 100000 in
theorem f62_81 : mj_find (mj_P 62).2.2.2.2 81 = [(.iinc 3 1, 3, 1, []), (.goto (-82), 3, 0, [2])] := rfl
set_option maxRecDepth 100000 in
theorem q62_81 (E : mj_E) (d w c : Nat) (hi : Nat → Nat → Int32) (hl : Nat → Nat → Int64) (v1 : Int32) (v2 : Int32) (v3 : Int32) (v4 : Int32) : mj_den mj_P E d 62 81 [Value.ref 159, Value.int v1, Value.int v2, Value.int v3, Value.int v4] [] (mj_hw w c hi hl) = mj_den mj_P E d 62 2 [Value.ref 159, Value.int v1, Value.int v2, Value.int (v3 + (1 : Int32)), Value.int v4] [] (mj_hw w c hi hl) := by
  rw [mj_den_eq, f62_81]
  exact zt_iinc rfl (Nat.le_of_ble_eq_true rfl) rfl rfl (zt_goto rfl)
set_option maxRecDepth 100000 in
theorem f62_87 : mj_find (mj_P 62).2.2.2.2 87 = [(.aload_n 0, 1, 0, []), (.iconst 1, 1, 1, []), (.invokevirtual 94, 3, 0, [0, 58, 6, 1, 1, 980, 982, 11, 150, 983])] := rfl
set_option maxRecDepth 100000 in
theorem q62_87 (E : mj_E) (d w c : Nat) (hi : Nat → Nat → Int32) (hl : Nat → Nat → Int64) (v1 : Int32) (v2 : Int32) (v3 : Int32) (v4 : Int32) : mj_den mj_P E d 62 87 [Value.ref 159, Value.int v1, Value.int v2, Value.int v3, Value.int v4] [] (mj_hw w c hi hl) = mj_bi (mj_dc mj_P E d 58 [Value.ref 159, Value.int (1 : Int32)] (mj_hw w c hi hl)) (fun x1 h1 => mj_den mj_P E d 62 92 [Value.ref 159, Value.int v1, Value.int v2, Value.int v3, Value.int v4] [Value.int x1] h1) := by
  rw [mj_den_eq, f62_87]
  exact zt_aload_n rfl rfl (zt_iconst rfl (zt_call0_1 rfl (mjkd159 _ _ _ _) (Nat.le_of_ble_eq_true rfl) rfl rfl))
set_option maxRecDepth 100000 in
theorem q62_87_1 (E : mj_E) (d w c : Nat) (hi : Nat → Nat → Int32) (hl : Nat → Nat → Int64) (v1 : Int32) (v2 : Int32) (v3 : Int32) : mj_den mj_P E d 62 87 [Value.ref 159, Value.int v1, Value.int v2, Value.int v3, Value.float 0] [] (mj_hw w c hi hl) = mj_bi (mj_dc mj_P E d 58 [Value.ref 159, Value.int (1 : Int32)] (mj_hw w c hi hl)) (fun x1 h1 => mj_den mj_P E d 62 92 [Value.ref 159, Value.int v1, Value.int v2, Value.int v3, Value.float 0] [Value.int x1] h1) := by
  rw [mj_den_eq, f62_87]
  exact zt_aload_n rfl rfl (zt_iconst rfl (zt_call0_1 rfl (mjkd159 _ _ _ _) (Nat.le_of_ble_eq_true rfl) rfl rfl))
set_option maxRecDepth 100000 in
theorem f62_92 : mj_find (mj_P 62).2.2.2.2 92 = [(.ireturn, 1, 0, [1])] := rfl
set_option maxRecDepth 100000 in
theorem q62_92 (E : mj_E) (d w c : Nat) (hi : Nat → Nat → Int32) (hl : Nat → Nat → Int64) (v1 : Int32) (v2 : Int32) (v3 : Int32) (v4 : Int32) (s0 : Int32) : mj_den mj_P E d 62 92 [Value.ref 159, Value.int v1, Value.int v2, Value.int v3, Value.int v4] [Value.int s0] (mj_hw w c hi hl) = if s0 = 0 ∨ s0 = 1 then some (some (Value.int s0), (mj_hw w c hi hl)) else none := by
  rw [mj_den_eq, f62_92]
  exact zt_ireturn1
set_option maxRecDepth 100000 in
theorem q62_92_1 (E : mj_E) (d w c : Nat) (hi : Nat → Nat → Int32) (hl : Nat → Nat → Int64) (v1 : Int32) (v2 : Int32) (v3 : Int32) (s0 : Int32) : mj_den mj_P E d 62 92 [Value.ref 159, Value.int v1, Value.int v2, Value.int v3, Value.float 0] [Value.int s0] (mj_hw w c hi hl) = if s0 = 0 ∨ s0 = 1 then some (some (Value.int s0), (mj_hw w c hi hl)) else none := by
  rw [mj_den_eq, f62_92]
  exact zt_ireturn1
set_option maxRecDepth 100000 in
theorem f63_0 : mj_find (mj_P 63).2.2.2.2 0 = [(.aload_n 0, 1, 0, []), (.bipush 6, 2, 6, []), (.invokevirtual 161, 3, 0, [0, 57, 6, 1, 1, 1004, 1006, 16, 150, 1007])] := rfl
set_option maxRecDepth 100000 in
theorem q63_0 (E : mj_E) (d w c : Nat) (hi : Nat → Nat → Int32) (hl : Nat → Nat → Int64) (v1 : Int32) : mj_den mj_P E d 63 0 [Value.ref 159, Value.int v1, Value.float 0, Value.float 0] [] (mj_hw w c hi hl) = mj_bi (mj_dc mj_P E d 57 [Value.ref 159, Value.int (6 : Int32)] (mj_hw w c hi hl)) (fun x1 h1 => mj_den mj_P E d 63 6 [Value.ref 159, Value.int v1, Value.float 0, Value.float 0] [Value.int x1] h1) := by
  rw [mj_den_eq, f63_0]
  exact zt_aload_n rfl rfl (zt_bipush rfl (zt_call0_1 rfl (mjkd159 _ _ _ _) (Nat.le_of_ble_eq_true rfl) rfl rfl))
set_option maxRecDepth 100000 in
theorem f63_6 : mj_find (mj_P 63).2.2.2.2 6 = [(.istore_n 2, 1, 0, []), (.iload_n 2, 1, 0, []), (.ifCond .ne 12, 3, 0, [20]), (.aload_n 0, 1, 0, []), (.bipush 40, 2, 40, []), (.invokevirtual 147, 3, 0, [0, 56, 6, 1, 1, 1000, 1002, 15, 150, 1003])] := rfl
set_option maxRecDepth 100000 in
theorem q63_6 (E : mj_E) (d w c : Nat) (hi : Nat → Nat → Int32) (hl : Nat → Nat → Int64) (v1 : Int32) (s0 : Int32) : mj_den mj_P E d 63 6 [Value.ref 159, Value.int v1, Value.float 0, Value.float 0] [Value.int s0] (mj_hw w c hi hl) = if ¬ s0 = 0 then mj_den mj_P E d 63 20 [Value.ref 159, Value.int v1, Value.int s0, Value.float 0] [] (mj_hw w c hi hl) else mj_bi (mj_dc mj_P E d 56 [Value.ref 159, Value.int (40 : Int32)] (mj_hw w c hi hl)) (fun x1 h1 => mj_den mj_P E d 63 17 [Value.ref 159, Value.int v1, Value.int s0, Value.float 0] [Value.int x1] h1) := by
  rw [mj_den_eq, f63_6]
  exact zt_istore_n (Nat.le_of_ble_eq_true rfl) rfl rfl (zt_iload_n rfl rfl (zt_if_ne rfl rfl (zt_aload_n rfl rfl (zt_bipush rfl (zt_call0_1 rfl (mjkd159 _ _ _ _) (Nat.le_of_ble_eq_true rfl) rfl rfl)))))
set_option maxRecDepth 100000 in
theorem f63_17 : mj_find (mj_P 63).2.2.2.2 17 = [(.ifCond .eq 79, 3, 0, [96])] := rfl
set_option maxRecDepth 100000 in
theorem q63_17 (E : mj_E) (d w c : Nat) (hi : Nat → Nat → Int32) (hl : Nat → Nat → Int64) (v1 : Int32) (v2 : Int32) (s0 : Int32) : mj_den mj_P E d 63 17 [Value.ref 159, Value.int v1, Value.int v2, Value.float 0] [Value.int s0] (mj_hw w c hi hl) = if s0 = 0 then mj_den mj_P E d 63 96 [Value.ref 159, Value.int v1, Value.int v2, Value.float 0] [] (mj_hw w c hi hl) else mj_den mj_P E d 63 20 [Value.ref 159, Value.int v1, Value.int v2, Value.float 0] [] (mj_hw w c hi hl) := by
  rw [mj_den_eq, f63_17]
  exact zt_if_eq rfl rfl (zt_end rfl)
set_option maxRecDepth 100000 in
theorem f63_20 : mj_find (mj_P 63).2.2.2.2 20 = [(.iload_n 1, 1, 0, []), (.bipush 8, 2, 8, []), (.if_icmp .lt 9, 3, 0, [32]), (.aload_n 0, 1, 0, []), (.iconst 3, 1, 3, []), (.invokevirtual 94, 3, 0, [0, 58, 6, 1, 1, 980, 982, 11, 150, 983])] := rfl
set_option maxRecDepth 100000 in
theorem q63_20 (E : mj_E) (d w c : Nat) (hi : Nat → Nat → Int32) (hl : Nat → Nat → Int64) (v1 : Int32) (v2 : Int32) : mj_den mj_P E d 63 20 [Value.ref 159, Value.int v1, Value.int v2, Value.float 0] [] (mj_hw w c hi hl) = if v1 < (8 : Int32) then mj_den mj_P E d 63 32 [Value.ref 159, Value.int v1, Value.int v2, Value.float 0] [] (mj_hw w c hi hl) else mj_bi (mj_dc mj_P E d 58 [Value.ref 159, Value.int (3 : Int32)] (mj_hw w c hi hl)) (fun x1 h1 => mj_den mj_P E d 63 31 [Value.ref 159, Value.int v1, Value.int v2, Value.float 0] [Value.int x1] h1) := by
  rw [mj_den_eq, f63_20]
  exact zt_iload_n rfl rfl (zt_bipush rfl (zt_icmp_lt rfl rfl (zt_aload_n rfl rfl (zt_iconst rfl (zt_call0_1 rfl (mjkd159 _ _ _ _) (Nat.le_of_ble_eq_true rfl) rfl rfl)))))
set_option maxRecDepth 100000 in
theorem f63_31 : mj_find (mj_P 63).2.2.2.2 31 = [(.ireturn, 1, 0, [1])] := rfl
set_option maxRecDepth 100000 in
theorem q63_31 (E : mj_E) (d w c : Nat) (hi : Nat → Nat → Int32) (hl : Nat → Nat → Int64) (v1 : Int32) (v2 : Int32) (s0 : Int32) : mj_den mj_P E d 63 31 [Value.ref 159, Value.int v1, Value.int v2, Value.float 0] [Value.int s0] (mj_hw w c hi hl) = if s0 = 0 ∨ s0 = 1 then some (some (Value.int s0), (mj_hw w c hi hl)) else none := by
  rw [mj_den_eq, f63_31]
  exact zt_ireturn1
set_option maxRecDepth 100000 in
theorem f63_32 : mj_find (mj_P 63).2.2.2.2 32 = [(.aload_n 0, 1, 0, []), (.invokevirtual 91, 3, 0, [0, 55, 6, 0, 0, 976, 978, 10, 150, 979])] := rfl
set_option maxRecDepth 100000 in
theorem q63_32 (E : mj_E) (d w c : Nat) (hi : Nat → Nat → Int32) (hl : Nat → Nat → Int64) (v1 : Int32) (v2 : Int32) : mj_den mj_P E d 63 32 [Value.ref 159, Value.int v1, Value.int v2, Value.float 0] [] (mj_hw w c hi hl) = mj_bv (mj_dc mj_P E d 55 [Value.ref 159] (mj_hw w c hi hl)) (fun h1 => mj_den mj_P E d 63 36 [Value.ref 159, Value.int v1, Value.int v2, Value.float 0] [] h1) := by
  rw [mj_den_eq, f63_32]
  exact zt_aload_n rfl rfl (zt_call0_0 rfl (mjkd159 _ _ _ _) (Nat.le_of_ble_eq_true rfl) rfl rfl)
set_option maxRecDepth 100000 in
theorem f63_36 : mj_find (mj_P 63).2.2.2.2 36 = [(.iload_n 2, 1, 0, []), (.ifCond .eq 13, 3, 0, [50]), (.aload_n 0, 1, 0, []), (.iload_n 1, 1, 0, []), (.iconst 1, 1, 1, []), (.iadd, 1, 0, []), (.invokevirtual 171, 3, 0, [0, 63, 6, 1, 1, 1012, 1014, 18, 150, 1015])] := rfl
set_option maxRecDepth 100000 in
theorem q63_36 (E : mj_E) (d w c : Nat) (hi : Nat → Nat → Int32) (hl : Nat → Nat → Int64) (v1 : Int32) (v2 : Int32) : mj_den mj_P E d 63 36 [Value.ref 159, Value.int v1, Value.int v2, Value.float 0] [] (mj_hw w c hi hl) = if v2 = 0 then mj_den mj_P E d 63 50 [Value.ref 159, Value.int v1, Value.int v2, Value.float 0] [] (mj_hw w c hi hl) else mj_bi (mj_dc mj_P E d 63 [Value.ref 159, Value.int (v1 + (1 : Int32))] (mj_hw w c hi hl)) (fun x1 h1 => mj_den mj_P E d 63 47 [Value.ref 159, Value.int v1, Value.int v2, Value.float 0] [Value.int x1] h1) := by
  rw [mj_den_eq, f63_36]
  exact zt_iload_n rfl rfl (zt_if_eq rfl rfl (zt_aload_n rfl rfl (zt_iload_n rfl rfl (zt_iconst rfl (zt_iadd rfl (zt_call0_1 rfl (mjkd159 _ _ _ _) (Nat.le_of_ble_eq_true rfl) rfl rfl))))))
set_option maxRecDepth 100000 in
theorem f63_47 : mj_find (mj_P 63).2.2.2.2 47 = [(.goto 28, 3, 0, [75])] := rfl
set_option maxRecDepth 100000 in
theorem q63_47 (E : mj_E) (d w c : Nat) (hi : Nat → Nat → Int32) (hl : Nat → Nat → Int64) (v1 : Int32) (v2 : Int32) (s0 : Int32) : mj_den mj_P E d 63 47 [Value.ref 159, Value.int v1, Value.int v2, Value.float 0] [Value.int s0] (mj_hw w c hi hl) = mj_den mj_P E d 63 75 [Value.ref 159, Value.int v1, Value.int v2, Value.float 0] [Value.int s0] (mj_hw w c hi hl) := by
  rw [mj_den_eq, f63_47]
  exact zt_goto rfl
set_option maxRecDepth 100000 in
theorem f63_50 : mj_find (mj_P 63).2.2.2.2 50 = [(.aload_n 0, 1, 0, []), (.iconst 0, 1, 0, []), (.iload_n 1, 1, 0, []), (.iconst 1, 1, 1, []), (.iadd, 1, 0, []), (.invokevirtual 164, 3, 0, [0, 62, 6, 2, 1, 1008, 1010, 17, 150, 1011])] := rfl
set_option maxRecDepth 100000 in
theorem q63_50 (E : mj_E) (d w c : Nat) (hi : Nat → Nat → Int32) (hl : Nat → Nat → Int64) (v1 : Int32) (v2 : Int32) : mj_den mj_P E d 63 50 [Value.ref 159, Value.int v1, Value.int v2, Value.float 0] [] (mj_hw w c hi hl) = mj_bi (mj_dc mj_P E d 62 [Value.ref 159, Value.int (0 : Int32), Value.int (v1 + (1 : Int32))] (mj_hw w c hi hl)) (fun x1 h1 => mj_den mj_P E d 63 58 [Value.ref 159, Value.int v1, Value.int v2, Value.float 0] [Value.int x1] h1) := by
  rw [mj_den_eq, f63_50]
  exact zt_aload_n rfl rfl (zt_iconst rfl (zt_iload_n rfl rfl (zt_iconst rfl (zt_iadd rfl (zt_call0_1 rfl (mjkd159 _ _ _ _) (Nat.le_of_ble_eq_true rfl) rfl rfl)))))
set_option maxRecDepth 100000 in
theorem f63_58 : mj_find (mj_P 63).2.2.2.2 58 = [(.ifCond .eq 16, 3, 0, [74]), (.aload_n 0, 1, 0, []), (.bipush 41, 2, 41, []), (.invokevirtual 111, 3, 0, [0, 59, 6, 1, 1, 1016, 1018, 19, 150, 1019])] := rfl
set_option maxRecDepth 100000 in
theorem q63_58 (E : mj_E) (d w c : Nat) (hi : Nat → Nat → Int32) (hl : Nat → Nat → Int64) (v1 : Int32) (v2 : Int32) (s0 : Int32) : mj_den mj_P E d 63 58 [Value.ref 159, Value.int v1, Value.int v2, Value.float 0] [Value.int s0] (mj_hw w c hi hl) = if s0 = 0 then mj_den mj_P E d 63 74 [Value.ref 159, Value.int v1, Value.int v2, Value.float 0] [] (mj_hw w c hi hl) else mj_bi (mj_dc mj_P E d 59 [Value.ref 159, Value.int (41 : Int32)] (mj_hw w c hi hl)) (fun x1 h1 => mj_den mj_P E d 63 67 [Value.ref 159, Value.int v1, Value.int v2, Value.float 0] [Value.int x1] h1) := by
  rw [mj_den_eq, f63_58]
  exact zt_if_eq rfl rfl (zt_aload_n rfl rfl (zt_bipush rfl (zt_call0_1 rfl (mjkd159 _ _ _ _) (Nat.le_of_ble_eq_true rfl) rfl rfl)))
set_option maxRecDepth 100000 in
theorem f63_67 : mj_find (mj_P 63).2.2.2.2 67 = [(.ifCond .eq 7, 3, 0, [74]), (.iconst 1, 1, 1, []), (.goto 4, 3, 0, [75])] := rfl
set_option maxRecDepth 100000 in
theorem q63_67 (E : mj_E) (d w c : Nat) (hi : Nat → Nat → Int32) (hl : Nat → Nat → Int64) (v1 : Int32) (v2 : Int32) (s0 : Int32) : mj_den mj_P E d 63 67 [Value.ref 159, Value.int v1, Value.int v2, Value.float 0] [Value.int s0] (mj_hw w c hi hl) = if s0 = 0 then mj_den mj_P E d 63 74 [Value.ref 159, Value.int v1, Value.int v2, Value.float 0] [] (mj_hw w c hi hl) else mj_den mj_P E d 63 75 [Value.ref 159, Value.int v1, Value.int v2, Value.float 0] [Value.int (1 : Int32)] (mj_hw w c hi hl) := by
  rw [mj_den_eq, f63_67]
  exact zt_if_eq rfl rfl (zt_iconst rfl (zt_goto rfl))
set_option maxRecDepth 100000 in
theorem f63_74 : mj_find (mj_P 63).2.2.2.2 74 = [(.iconst 0, 1, 0, [])] := rfl
set_option maxRecDepth 100000 in
theorem q63_74 (E : mj_E) (d w c : Nat) (hi : Nat → Nat → Int32) (hl : Nat → Nat → Int64) (v1 : Int32) (v2 : Int32) : mj_den mj_P E d 63 74 [Value.ref 159, Value.int v1, Value.int v2, Value.float 0] [] (mj_hw w c hi hl) = mj_den mj_P E d 63 75 [Value.ref 159, Value.int v1, Value.int v2, Value.float 0] [Value.int (0 : Int32)] (mj_hw w c hi hl) := by
  rw [mj_den_eq, f63_74]
  exact zt_iconst rfl (zt_end rfl)
set_option maxRecDepth 100000 in
theorem f63_75 : mj_find (mj_P 63).2.2.2.2 75 = [(.istore_n 3, 1, 0, []), (.iload_n 3, 1, 0, []), (.ifCond .eq 17, 3, 0, [94]), (.iload_n 2, 1, 0, []), (.ifCond .eq 13, 3, 0, [94]), (.aload_n 0, 1, 0, []), (.getfield 24, 3, 0, [6, 3, 3, 490]), (.bipush 18, 2, 18, []), (.iconst 0, 1, 0, []), (.invokevirtual 174, 3, 0, [0, 17, 2, 2, 0, 996, 997, 998, 146, 999])] := rfl
set_option maxRecDepth 100000 in
theorem q63_75 (E : mj_E) (d w c : Nat) (hi : Nat → Nat → Int32) (hl : Nat → Nat → Int64) (v1 : Int32) (v2 : Int32) (s0 : Int32) : mj_den mj_P E d 63 75 [Value.ref 159, Value.int v1, Value.int v2, Value.float 0] [Value.int s0] (mj_hw w c hi hl) = if s0 = 0 then mj_den mj_P E d 63 94 [Value.ref 159, Value.int v1, Value.int v2, Value.int s0] [] (mj_hw w c hi hl) else if v2 = 0 then mj_den mj_P E d 63 94 [Value.ref 159, Value.int v1, Value.int v2, Value.int s0] [] (mj_hw w c hi hl) else mj_bv (mj_dc mj_P E d 17 [Value.ref 160, Value.int (18 : Int32), Value.int (0 : Int32)] (mj_hw w c hi hl)) (fun h1 => mj_den mj_P E d 63 94 [Value.ref 159, Value.int v1, Value.int v2, Value.int s0] [] h1) := by
  rw [mj_den_eq, f63_75]
  exact zt_istore_n (Nat.le_of_ble_eq_true rfl) rfl rfl (zt_iload_n rfl rfl (zt_if_eq rfl rfl (zt_iload_n rfl rfl (zt_if_eq rfl rfl (zt_aload_n rfl rfl (zt_getr (mjkd159 _ _ _ _) (mjhr159_3 w c) rfl (zt_bipush rfl (zt_iconst rfl (zt_call0_0 rfl (mjkd160 _ _ _ _) (Nat.le_of_ble_eq_true rfl) rfl rfl)))))))))
set_option maxRecDepth 100000 in
theorem f63_94 : mj_find (mj_P 63).2.2.2.2 94 = [(.iload_n 3, 1, 0, []), (.ireturn, 1, 0, [1])] := rfl
set_option maxRecDepth 100000 in
theorem q63_94 (E : mj_E) (d w c : Nat) (hi : Nat → Nat → Int32) (hl : Nat → Nat → Int64) (v1 : Int32) (v2 : Int32) (v3 : Int32) : mj_den mj_P E d 63 94 [Value.ref 159, Value.int v1, Value.int v2, Value.int v3] [] (mj_hw w c hi hl) = if v3 = 0 ∨ v3 = 1 then some (some (Value.int v3), (mj_hw w c hi hl)) else none := by
  rw [mj_den_eq, f63_94]
  exact zt_iload_n rfl rfl (zt_ireturn1)
set_option maxRecDepth 100000 in
theorem f63_96 : mj_find (mj_P 63).2.2.2.2 96 = [(.aload_n 0, 1, 0, []), (.invokevirtual 155, 3, 0, [0, 64, 6, 0, 1, 988, 990, 13, 150, 991])] := rfl
set_option maxRecDepth 100000 in
theorem q63_96 (E : mj_E) (d w c : Nat) (hi : Nat → Nat → Int32) (hl : Nat → Nat → Int64) (v1 : Int32) (v2 : Int32) : mj_den mj_P E d 63 96 [Value.ref 159, Value.int v1, Value.int v2, Value.float 0] [] (mj_hw w c hi hl) = mj_bi (mj_dc mj_P E d 64 [Value.ref 159] (mj_hw w c hi hl)) (fun x1 h1 => mj_den mj_P E d 63 100 [Value.ref 159, Value.int v1, Value.int v2, Value.float 0] [Value.int x1] h1) := by
  rw [mj_den_eq, f63_96]
  exact zt_aload_n rfl rfl (zt_call0_1 rfl (mjkd159 _ _ _ _) (Nat.le_of_ble_eq_true rfl) rfl rfl)
set_option maxRecDepth 100000 in
theorem f63_100 : mj_find (mj_P 63).2.2.2.2 100 = [(.ifCond .ne 5, 3, 0, [105]), (.iconst 0, 1, 0, []), (.ireturn, 1, 0, [1])] := rfl
set_option maxRecDepth 100000 in
theorem q63_100 (E : mj_E) (d w c : Nat) (hi : Nat → Nat → Int32) (hl : Nat → Nat → Int64) (v1 : Int32) (v2 : Int32) (s0 : Int32) : mj_den mj_P E d 63 100 [Value.ref 159, Value.int v1, Value.int v2, Value.float 0] [Value.int s0] (mj_hw w c hi hl) = if ¬ s0 = 0 then mj_den mj_P E d 63 105 [Value.ref 159, Value.int v1, Value.int v2, Value.float 0] [] (mj_hw w c hi hl) else if (0 : Int32) = 0 ∨ (0 : Int32) = 1 then some (some (Value.int (0 : Int32)), (mj_hw w c hi hl)) else none := by
  rw [mj_den_eq, f63_100]
  exact zt_if_ne rfl rfl (zt_iconst rfl (zt_ireturn1))
set_option maxRecDepth 100000 in
theorem f63_105 : mj_find (mj_P 63).2.2.2.2 105 = [(.aload_n 0, 1, 0, []), (.bipush 60, 2, 60, []), (.invokevirtual 147, 3, 0, [0, 56, 6, 1, 1, 1000, 1002, 15, 150, 1003])] := rfl
set_option maxRecDepth 100000 in
theorem q63_105 (E : mj_E) (d w c : Nat) (hi : Nat → Nat → Int32) (hl : Nat → Nat → Int64) (v1 : Int32) (v2 : Int32) : mj_den mj_P E d 63 105 [Value.ref 159, Value.int v1, Value.int v2, Value.float 0] [] (mj_hw w c hi hl) = mj_bi (mj_dc mj_P E d 56 [Value.ref 159, Value.int (60 : Int32)] (mj_hw w c hi hl)) (fun x1 h1 => mj_den mj_P E d 63 111 [Value.ref 159, Value.int v1, Value.int v2, Value.float 0] [Value.int x1] h1) := by
  rw [mj_den_eq, f63_105]
  exact zt_aload_n rfl rfl (zt_bipush rfl (zt_call0_1 rfl (mjkd159 _ _ _ _) (Nat.le_of_ble_eq_true rfl) rfl rfl))
set_option maxRecDepth 100000 in
theorem f63_111 : mj_find (mj_P 63).2.2.2.2 111 = [(.ifCond .eq 8, 3, 0, [119]), (.bipush 15, 2, 15, []), (.goto 32, 3, 0, [148])] := rfl
set_option maxRecDepth 100000 in
theorem q63_111 (E : mj_E) (d w c : Nat) (hi : Nat → Nat → Int32) (hl : Nat → Nat → Int64) (v1 : Int32) (v2 : Int32) (s0 : Int32) : mj_den mj_P E d 63 111 [Value.ref 159, Value.int v1, Value.int v2, Value.float 0] [Value.int s0] (mj_hw w c hi hl) = if s0 = 0 then mj_den mj_P E d 63 119 [Value.ref 159, Value.int v1, Value.int v2, Value.float 0] [] (mj_hw w c hi hl) else mj_den mj_P E d 63 148 [Value.ref 159, Value.int v1, Value.int v2, Value.float 0] [Value.int (15 : Int32)] (mj_hw w c hi hl) := by
  rw [mj_den_eq, f63_111]
  exact zt_if_eq rfl rfl (zt_bipush rfl (zt_goto rfl))
set_option maxRecDepth 100000 in
theorem f63_119 : mj_find (mj_P 63).2.2.2.2 119 = [(.aload_n 0, 1, 0, []), (.bipush 61, 2, 61, []), (.invokevirtual 147, 3, 0, [0, 56, 6, 1, 1, 1000, 1002, 15, 150, 1003])] := rfl
set_option maxRecDepth 100000 in
theorem q63_119 (E : mj_E) (d w c : Nat) (hi : Nat → Nat → Int32) (hl : Nat → Nat → Int64) (v1 : Int32) (v2 : Int32) : mj_den mj_P E d 63 119 [Value.ref 159, Value.int v1, Value.int v2, Value.float 0] [] (mj_hw w c hi hl) = mj_bi (mj_dc mj_P E d 56 [Value.ref 159, Value.int (61 : Int32)] (mj_hw w c hi hl)) (fun x1 h1 => mj_den mj_P E d 63 125 [Value.ref 159, Value.int v1, Value.int v2, Value.float 0] [Value.int x1] h1) := by
  rw [mj_den_eq, f63_119]
  exact zt_aload_n rfl rfl (zt_bipush rfl (zt_call0_1 rfl (mjkd159 _ _ _ _) (Nat.le_of_ble_eq_true rfl) rfl rfl))
set_option maxRecDepth 100000 in
theorem f63_125 : mj_find (mj_P 63).2.2.2.2 125 = [(.ifCond .eq 8, 3, 0, [133]), (.bipush 16, 2, 16, []), (.goto 18, 3, 0, [148])] := rfl
set_option maxRecDepth 100000 in
theorem q63_125 (E : mj_E) (d w c : Nat) (hi : Nat → Nat → Int32) (hl : Nat → Nat → Int64) (v1 : Int32) (v2 : Int32) (s0 : Int32) : mj_den mj_P E d 63 125 [Value.ref 159, Value.int v1, Value.int v2, Value.float 0] [Value.int s0] (mj_hw w c hi hl) = if s0 = 0 then mj_den mj_P E d 63 133 [Value.ref 159, Value.int v1, Value.int v2, Value.float 0] [] (mj_hw w c hi hl) else mj_den mj_P E d 63 148 [Value.ref 159, Value.int v1, Value.int v2, Value.float 0] [Value.int (16 : Int32)] (mj_hw w c hi hl) := by
  rw [mj_den_eq, f63_125]
  exact zt_if_eq rfl rfl (zt_bipush rfl (zt_goto rfl))
set_option maxRecDepth 100000 in
theorem f63_133 : mj_find (mj_P 63).2.2.2.2 133 = [(.aload_n 0, 1, 0, []), (.bipush 62, 2, 62, []), (.invokevirtual 147, 3, 0, [0, 56, 6, 1, 1, 1000, 1002, 15, 150, 1003])] := rfl
set_option maxRecDepth 100000 in
theorem q63_133 (E : mj_E) (d w c : Nat) (hi : Nat → Nat → Int32) (hl : Nat → Nat → Int64) (v1 : Int32) (v2 : Int32) : mj_den mj_P E d 63 133 [Value.ref 159, Value.int v1, Value.int v2, Value.float 0] [] (mj_hw w c hi hl) = mj_bi (mj_dc mj_P E d 56 [Value.ref 159, Value.int (62 : Int32)] (mj_hw w c hi hl)) (fun x1 h1 => mj_den mj_P E d 63 139 [Value.ref 159, Value.int v1, Value.int v2, Value.float 0] [Value.int x1] h1) := by
  rw [mj_den_eq, f63_133]
  exact zt_aload_n rfl rfl (zt_bipush rfl (zt_call0_1 rfl (mjkd159 _ _ _ _) (Nat.le_of_ble_eq_true rfl) rfl rfl))
set_option maxRecDepth 100000 in
theorem f63_139 : mj_find (mj_P 63).2.2.2.2 139 = [(.ifCond .eq 8, 3, 0, [147]), (.bipush 17, 2, 17, []), (.goto 4, 3, 0, [148])] := rfl
set_option maxRecDepth 100000 in
theorem q63_139 (E : mj_E) (d w c : Nat) (hi : Nat → Nat → Int32) (hl : Nat → Nat → Int64) (v1 : Int32) (v2 : Int32) (s0 : Int32) : mj_den mj_P E d 63 139 [Value.ref 159, Value.int v1, Value.int v2, Value.float 0] [Value.int s0] (mj_hw w c hi hl) = if s0 = 0 then mj_den mj_P E d 63 147 [Value.ref 159, Value.int v1, Value.int v2, Value.float 0] [] (mj_hw w c hi hl) else mj_den mj_P E d 63 148 [Value.ref 159, Value.int v1, Value.int v2, Value.float 0] [Value.int (17 : Int32)] (mj_hw w c hi hl) := by
  rw [mj_den_eq, f63_139]
  exact zt_if_eq rfl rfl (zt_bipush rfl (zt_goto rfl))
set_option maxRecDepth 100000 in
theorem f63_147 : mj_find (mj_P 63).2.2.2.2 147 = [(.iconst (-1), 1, (-1), [])] := rfl
set_option maxRecDepth 100000 in
theorem q63_147 (E : mj_E) (d w c : Nat) (hi : Nat → Nat → Int32) (hl : Nat → Nat → Int64) (v1 : Int32) (v2 : Int32) : mj_den mj_P E d 63 147 [Value.ref 159, Value.int v1, Value.int v2, Value.float 0] [] (mj_hw w c hi hl) = mj_den mj_P E d 63 148 [Value.ref 159, Value.int v1, Value.int v2, Value.float 0] [Value.int (-1 : Int32)] (mj_hw w c hi hl) := by
  rw [mj_den_eq, f63_147]
  exact zt_iconst rfl (zt_end rfl)
set_option maxRecDepth 100000 in
theorem f63_148 : mj_find (mj_P 63).2.2.2.2 148 = [(.istore_n 3, 1, 0, []), (.iload_n 3, 1, 0, []), (.iconst (-1), 1, (-1), []), (.if_icmp .ne 9, 3, 0, [160]), (.aload_n 0, 1, 0, []), (.iconst 1, 1, 1, []), (.invokevirtual 94, 3, 0, [0, 58, 6, 1, 1, 980, 982, 11, 150, 983])] := rfl
set_option maxRecDepth 100000 in
theorem q63_148 (E : mj_E) (d w c : Nat) (hi : Nat → Nat → Int32) (hl : Nat → Nat → Int64) (v1 : Int32) (v2 : Int32) (s0 : Int32) : mj_den mj_P E d 63 148 [Value.ref 159, Value.int v1, Value.int v2, Value.float 0] [Value.int s0] (mj_hw w c hi hl) = if ¬ s0 = (-1 : Int32) then mj_den mj_P E d 63 160 [Value.ref 159, Value.int v1, Value.int v2, Value.int s0] [] (mj_hw w c hi hl) else mj_bi (mj_dc mj_P E d 58 [Value.ref 159, Value.int (1 : Int32)] (mj_hw w c hi hl)) (fun x1 h1 => mj_den mj_P E d 63 159 [Value.ref 159, Value.int v1, Value.int v2, Value.int s0] [Value.int x1] h1) := by
  rw [mj_den_eq, f63_148]
  exact zt_istore_n (Nat.le_of_ble_eq_true rfl) rfl rfl (zt_iload_n rfl rfl (zt_iconst rfl (zt_icmp_ne rfl rfl (zt_aload_n rfl rfl (zt_iconst rfl (zt_call0_1 rfl (mjkd159 _ _ _ _) (Nat.le_of_ble_eq_true rfl) rfl rfl))))))
set_option maxRecDepth 100000 in
theorem f63_159 : mj_find (mj_P 63).2.2.2.2 159 = [(.ireturn, 1, 0, [1])] := rfl
set_option maxRecDepth 100000 in
theorem q63_159 (E : mj_E) (d w c : Nat) (hi : Nat → Nat → Int32) (hl : Nat → Nat → Int64) (v1 : Int32) (v2 : Int32) (v3 : Int32) (s0 : Int32) : mj_den mj_P E d 63 159 [Value.ref 159, Value.int v1, Value.int v2, Value.int v3] [Value.int s0] (mj_hw w c hi hl) = if s0 = 0 ∨ s0 = 1 then some (some (Value.int s0), (mj_hw w c hi hl)) else none := by
  rw [mj_den_eq, f63_159]
  exact zt_ireturn1
set_option maxRecDepth 100000 in
theorem f63_160 : mj_find (mj_P 63).2.2.2.2 160 = [(.aload_n 0, 1, 0, []), (.invokevirtual 91, 3, 0, [0, 55, 6, 0, 0, 976, 978, 10, 150, 979])] := rfl
set_option maxRecDepth 100000 in
theorem q63_160 (E : mj_E) (d w c : Nat) (hi : Nat → Nat → Int32) (hl : Nat → Nat → Int64) (v1 : Int32) (v2 : Int32) (v3 : Int32) : mj_den mj_P E d 63 160 [Value.ref 159, Value.int v1, Value.int v2, Value.int v3] [] (mj_hw w c hi hl) = mj_bv (mj_dc mj_P E d 55 [Value.ref 159] (mj_hw w c hi hl)) (fun h1 => mj_den mj_P E d 63 164 [Value.ref 159, Value.int v1, Value.int v2, Value.int v3] [] h1) := by
  rw [mj_den_eq, f63_160]
  exact zt_aload_n rfl rfl (zt_call0_0 rfl (mjkd159 _ _ _ _) (Nat.le_of_ble_eq_true rfl) rfl rfl)
set_option maxRecDepth 100000 in
theorem f63_164 : mj_find (mj_P 63).2.2.2.2 164 = [(.aload_n 0, 1, 0, []), (.invokevirtual 155, 3, 0, [0, 64, 6, 0, 1, 988, 990, 13, 150, 991])] := rfl
set_option maxRecDepth 100000 in
theorem q63_164 (E : mj_E) (d w c : Nat) (hi : Nat → Nat → Int32) (hl : Nat → Nat → Int64) (v1 : Int32) (v2 : Int32) (v3 : Int32) : mj_den mj_P E d 63 164 [Value.ref 159, Value.int v1, Value.int v2, Value.int v3] [] (mj_hw w c hi hl) = mj_bi (mj_dc mj_P E d 64 [Value.ref 159] (mj_hw w c hi hl)) (fun x1 h1 => mj_den mj_P E d 63 168 [Value.ref 159, Value.int v1, Value.int v2, Value.int v3] [Value.int x1] h1) := by
  rw [mj_den_eq, f63_164]
  exact zt_aload_n rfl rfl (zt_call0_1 rfl (mjkd159 _ _ _ _) (Nat.le_of_ble_eq_true rfl) rfl rfl)
set_option maxRecDepth 100000 in
theorem f63_168 : mj_find (mj_P 63).2.2.2.2 168 = [(.ifCond .ne 5, 3, 0, [173]), (.iconst 0, 1, 0, []), (.ireturn, 1, 0, [1])] := rfl
set_option maxRecDepth 100000 in
theorem q63_168 (E : mj_E) (d w c : Nat) (hi : Nat → Nat → Int32) (hl : Nat → Nat → Int64) (v1 : Int32) (v2 : Int32) (v3 : Int32) (s0 : Int32) : mj_den mj_P E d 63 168 [Value.ref 159, Value.int v1, Value.int v2, Value.int v3] [Value.int s0] (mj_hw w c hi hl) = if ¬ s0 = 0 then mj_den mj_P E d 63 173 [Value.ref 159, Value.int v1, Value.int v2, Value.int v3] [] (mj_hw w c hi hl) else if (0 : Int32) = 0 ∨ (0 : Int32) = 1 then some (some (Value.int (0 : Int32)), (mj_hw w c hi hl)) else none := by
  rw [mj_den_eq, f63_168]
  exact zt_if_ne rfl rfl (zt_iconst rfl (zt_ireturn1))
set_option maxRecDepth 100000 in
theorem f63_173 : mj_find (mj_P 63).2.2.2.2 173 = [(.aload_n 0, 1, 0, []), (.getfield 24, 3, 0, [6, 3, 3, 490]), (.iload_n 3, 1, 0, []), (.iconst 0, 1, 0, []), (.invokevirtual 174, 3, 0, [0, 17, 2, 2, 0, 996, 997, 998, 146, 999])] := rfl
set_option maxRecDepth 100000 in
theorem q63_173 (E : mj_E) (d w c : Nat) (hi : Nat → Nat → Int32) (hl : Nat → Nat → Int64) (v1 : Int32) (v2 : Int32) (v3 : Int32) : mj_den mj_P E d 63 173 [Value.ref 159, Value.int v1, Value.int v2, Value.int v3] [] (mj_hw w c hi hl) = mj_bv (mj_dc mj_P E d 17 [Value.ref 160, Value.int v3, Value.int (0 : Int32)] (mj_hw w c hi hl)) (fun h1 => mj_den mj_P E d 63 182 [Value.ref 159, Value.int v1, Value.int v2, Value.int v3] [] h1) := by
  rw [mj_den_eq, f63_173]
  exact zt_aload_n rfl rfl (zt_getr (mjkd159 _ _ _ _) (mjhr159_3 w c) rfl (zt_iload_n rfl rfl (zt_iconst rfl (zt_call0_0 rfl (mjkd160 _ _ _ _) (Nat.le_of_ble_eq_true rfl) rfl rfl))))
set_option maxRecDepth 100000 in
theorem f63_182 : mj_find (mj_P 63).2.2.2.2 182 = [(.iconst 1, 1, 1, []), (.ireturn, 1, 0, [1])] := rfl
set_option maxRecDepth 100000 in
theorem q63_182 (E : mj_E) (d w c : Nat) (hi : Nat → Nat → Int32) (hl : Nat → Nat → Int64) (v1 : Int32) (v2 : Int32) (v3 : Int32) : mj_den mj_P E d 63 182 [Value.ref 159, Value.int v1, Value.int v2, Value.int v3] [] (mj_hw w c hi hl) = if (1 : Int32) = 0 ∨ (1 : Int32) = 1 then some (some (Value.int (1 : Int32)), (mj_hw w c hi hl)) else none := by
  rw [mj_den_eq, f63_182]
  exact zt_iconst rfl (zt_ireturn1)
set_option maxRecDepth 100000 in
theorem f64_0 : mj_find (mj_P 64).2.2.2.2 0 = [(.iconst (-1), 1, (-1), []), (.istore_n 1, 1, 0, []), (.iconst 0, 1, 0, []), (.istore_n 2, 1, 0, [])] := rfl
set_option maxRecDepth 100000 in
theorem q64_0 (E : mj_E) (d w c : Nat) (hi : Nat → Nat → Int32) (hl : Nat → Nat → Int64) : mj_den mj_P E d 64 0 [Value.ref 159, Value.float 0, Value.float 0] [] (mj_hw w c hi hl) = mj_den mj_P E d 64 4 [Value.ref 159, Value.int (-1 : Int32), Value.int (0 : Int32)] [] (mj_hw w c hi hl) := by
  rw [mj_den_eq, f64_0]
  exact zt_iconst rfl (zt_istore_n (Nat.le_of_ble_eq_true rfl) rfl rfl (zt_iconst rfl (zt_istore_n (Nat.le_of_ble_eq_true rfl) rfl rfl (zt_end rfl))))
set_option maxRecDepth 100000 in
theorem f64_4 : mj_find (mj_P 64).2.2.2.2 4 = [(.iload_n 2, 1, 0, []), (.sipush 400, 3, 400, []), (.if_icmp .gt 73, 3, 0, [81]), (.aload_n 0, 1, 0, []), (.invokevirtual 178, 3, 0, [0, 65, 6, 0, 1, 992, 994, 14, 150, 995])] := rfl
set_option maxRecDepth 100000 in
theorem q64_4 (E : mj_E) (d w c : Nat) (hi : Nat → Nat → Int32) (hl : Nat → Nat → Int64) (v1 : Int32) (v2 : Int32) : mj_den mj_P E d 64 4 [Value.ref 159, Value.int v1, Value.int v2] [] (mj_hw w c hi hl) = if (400 : Int32) < v2 then mj_den mj_P E d 64 81 [Value.ref 159, Value.int v1, Value.int v2] [] (mj_hw w c hi hl) else mj_bi (mj_dc mj_P E d 65 [Value.ref 159] (mj_hw w c hi hl)) (fun x1 h1 => mj_den mj_P E d 64 15 [Value.ref 159, Value.int v1, Value.int v2] [Value.int x1] h1) := by
  rw [mj_den_eq, f64_4]
  exact zt_iload_n rfl rfl (zt_sipush rfl (zt_icmp_gt rfl rfl (zt_aload_n rfl rfl (zt_call0_1 rfl (mjkd159 _ _ _ _) (Nat.le_of_ble_eq_true rfl) rfl rfl))))
set_option maxRecDepth 100000 in
theorem f64_15 : mj_find (mj_P 64).2.2.2.2 15 = [(.ifCond .ne 5, 3, 0, [20]), (.iconst 0, 1, 0, []), (.ireturn, 1, 0, [1])] := rfl
set_option maxRecDepth 100000 in
theorem q64_15 (E : mj_E) (d w c : Nat) (hi : Nat → Nat → Int32) (hl : Nat → Nat → Int64) (v1 : Int32) (v2 : Int32) (s0 : Int32) : mj_den mj_P E d 64 15 [Value.ref 159, Value.int v1, Value.int v2] [Value.int s0] (mj_hw w c hi hl) = if ¬ s0 = 0 then mj_den mj_P E d 64 20 [Value.ref 159, Value.int v1, Value.int v2] [] (mj_hw w c hi hl) else if (0 : Int32) = 0 ∨ (0 : Int32) = 1 then some (some (Value.int (0 : Int32)), (mj_hw w c hi hl)) else none := by
  rw [mj_den_eq, f64_15]
  exact zt_if_ne rfl rfl (zt_iconst rfl (zt_ireturn1))
set_option maxRecDepth 100000 in
theorem f64_20 : mj_find (mj_P 64).2.2.2.2 20 = [(.iload_n 1, 1, 0, []), (.iconst (-1), 1, (-1), []), (.if_icmp .eq 12, 3, 0, [34]), (.aload_n 0, 1, 0, []), (.getfield 24, 3, 0, [6, 3, 3, 490]), (.iload_n 1, 1, 0, []), (.iconst 0, 1, 0, []), (.invokevirtual 174, 3, 0, [0, 17, 2, 2, 0, 996, 997, 998, 146, 999])] := rfl
set_option maxRecDepth 100000 in
theorem q64_20 (E : mj_E) (d w c : Nat) (hi : Nat → Nat → Int32) (hl : Nat → Nat → Int64) (v1 : Int32) (v2 : Int32) : mj_den mj_P E d 64 20 [Value.ref 159, Value.int v1, Value.int v2] [] (mj_hw w c hi hl) = if v1 = (-1 : Int32) then mj_den mj_P E d 64 34 [Value.ref 159, Value.int v1, Value.int v2] [] (mj_hw w c hi hl) else mj_bv (mj_dc mj_P E d 17 [Value.ref 160, Value.int v1, Value.int (0 : Int32)] (mj_hw w c hi hl)) (fun h1 => mj_den mj_P E d 64 34 [Value.ref 159, Value.int v1, Value.int v2] [] h1) := by
  rw [mj_den_eq, f64_20]
  exact zt_iload_n rfl rfl (zt_iconst rfl (zt_icmp_eq rfl rfl (zt_aload_n rfl rfl (zt_getr (mjkd159 _ _ _ _) (mjhr159_3 w c) rfl (zt_iload_n rfl rfl (zt_iconst rfl (zt_call0_0 rfl (mjkd160 _ _ _ _) (Nat.le_of_ble_eq_true rfl) rfl rfl)))))))
set_option maxRecDepth 100000 in
theorem f64_34 : mj_find (mj_P 64).2.2.2.2 34 = [(.aload_n 0, 1, 0, []), (.bipush 43, 2, 43, []), (.invokevirtual 147, 3, 0, [0, 56, 6, 1, 1, 1000, 1002, 15, 150, 1003])] := rfl
set_option maxRecDepth 100000 in
theorem q64_34 (E : mj_E) (d w c : Nat) (hi : Nat → Nat → Int32) (hl : Nat → Nat → Int64) (v1 : Int32) (v2 : Int32) : mj_den mj_P E d 64 34 [Value.ref 159, Value.int v1, Value.int v2] [] (mj_hw w c hi hl) = mj_bi (mj_dc mj_P E d 56 [Value.ref 159, Value.int (43 : Int32)] (mj_hw w c hi hl)) (fun x1 h1 => mj_den mj_P E d 64 40 [Value.ref 159, Value.int v1, Value.int v2] [Value.int x1] h1) := by
  rw [mj_den_eq, f64_34]
  exact zt_aload_n rfl rfl (zt_bipush rfl (zt_call0_1 rfl (mjkd159 _ _ _ _) (Nat.le_of_ble_eq_true rfl) rfl rfl))
set_option maxRecDepth 100000 in
theorem f64_40 : mj_find (mj_P 64).2.2.2.2 40 = [(.ifCond .eq 8, 3, 0, [48]), (.bipush 11, 2, 11, []), (.goto 18, 3, 0, [63])] := rfl
set_option maxRecDepth 100000 in
theorem q64_40 (E : mj_E) (d w c : Nat) (hi : Nat → Nat → Int32) (hl : Nat → Nat → Int64) (v1 : Int32) (v2 : Int32) (s0 : Int32) : mj_den mj_P E d 64 40 [Value.ref 159, Value.int v1, Value.int v2] [Value.int s0] (mj_hw w c hi hl) = if s0 = 0 then mj_den mj_P E d 64 48 [Value.ref 159, Value.int v1, Value.int v2] [] (mj_hw w c hi hl) else mj_den mj_P E d 64 63 [Value.ref 159, Value.int v1, Value.int v2] [Value.int (11 : Int32)] (mj_hw w c hi hl) := by
  rw [mj_den_eq, f64_40]
  exact zt_if_eq rfl rfl (zt_bipush rfl (zt_goto rfl))
set_option maxRecDepth 100000 in
theorem f64_48 : mj_find (mj_P 64).2.2.2.2 48 = [(.aload_n 0, 1, 0, []), (.bipush 45, 2, 45, []), (.invokevirtual 147, 3, 0, [0, 56, 6, 1, 1, 1000, 1002, 15, 150, 1003])] := rfl
set_option maxRecDepth 100000 in
theorem q64_48 (E : mj_E) (d w c : Nat) (hi : Nat → Nat → Int32) (hl : Nat → Nat → Int64) (v1 : Int32) (v2 : Int32) : mj_den mj_P E d 64 48 [Value.ref 159, Value.int v1, Value.int v2] [] (mj_hw w c hi hl) = mj_bi (mj_dc mj_P E d 56 [Value.ref 159, Value.int (45 : Int32)] (mj_hw w c hi hl)) (fun x1 h1 => mj_den mj_P E d 64 54 [Value.ref 159, Value.int v1, Value.int v2] [Value.int x1] h1) := by
  rw [mj_den_eq, f64_48]
  exact zt_aload_n rfl rfl (zt_bipush rfl (zt_call0_1 rfl (mjkd159 _ _ _ _) (Nat.le_of_ble_eq_true rfl) rfl rfl))
set_option maxRecDepth 100000 in
theorem f64_54 : mj_find (mj_P 64).2.2.2.2 54 = [(.ifCond .eq 8, 3, 0, [62]), (.bipush 12, 2, 12, []), (.goto 4, 3, 0, [63])] := rfl
set_option maxRecDepth 100000 in
theorem q64_54 (E : mj_E) (d w c : Nat) (hi : Nat → Nat → Int32) (hl : Nat → Nat → Int64) (v1 : Int32) (v2 : Int32) (s0 : Int32) : mj_den mj_P E d 64 54 [Value.ref 159, Value.int v1, Value.int v2] [Value.int s0] (mj_hw w c hi hl) = if s0 = 0 then mj_den mj_P E d 64 62 [Value.ref 159, Value.int v1, Value.int v2] [] (mj_hw w c hi hl) else mj_den mj_P E d 64 63 [Value.ref 159, Value.int v1, Value.int v2] [Value.int (12 : Int32)] (mj_hw w c hi hl) := by
  rw [mj_den_eq, f64_54]
  exact zt_if_eq rfl rfl (zt_bipush rfl (zt_goto rfl))
set_option maxRecDepth 100000 in
theorem f64_62 : mj_find (mj_P 64).2.2.2.2 62 = [(.iconst (-1), 1, (-1), [])] := rfl
set_option maxRecDepth 100000 in
theorem q64_62 (E : mj_E) (d w c : Nat) (hi : Nat → Nat → Int32) (hl : Nat → Nat → Int64) (v1 : Int32) (v2 : Int32) : mj_den mj_P E d 64 62 [Value.ref 159, Value.int v1, Value.int v2] [] (mj_hw w c hi hl) = mj_den mj_P E d 64 63 [Value.ref 159, Value.int v1, Value.int v2] [Value.int (-1 : Int32)] (mj_hw w c hi hl) := by
  rw [mj_den_eq, f64_62]
  exact zt_iconst rfl (zt_end rfl)
set_option maxRecDepth 100000 in
theorem f64_63 : mj_find (mj_P 64).2.2.2.2 63 = [(.istore_n 1, 1, 0, []), (.iload_n 1, 1, 0, []), (.iconst (-1), 1, (-1), []), (.if_icmp .ne 5, 3, 0, [71]), (.iconst 1, 1, 1, []), (.ireturn, 1, 0, [1])] := rfl
set_option maxRecDepth 100000 in
theorem q64_63 (E : mj_E) (d w c : Nat) (hi : Nat → Nat → Int32) (hl : Nat → Nat → Int64) (v1 : Int32) (v2 : Int32) (s0 : Int32) : mj_den mj_P E d 64 63 [Value.ref 159, Value.int v1, Value.int v2] [Value.int s0] (mj_hw w c hi hl) = if ¬ s0 = (-1 : Int32) then mj_den mj_P E d 64 71 [Value.ref 159, Value.int s0, Value.int v2] [] (mj_hw w c hi hl) else if (1 : Int32) = 0 ∨ (1 : Int32) = 1 then some (some (Value.int (1 : Int32)), (mj_hw w c hi hl)) else none := by
  rw [mj_den_eq, f64_63]
  exact zt_istore_n (Nat.le_of_ble_eq_true rfl) rfl rfl (zt_iload_n rfl rfl (zt_iconst rfl (zt_icmp_ne rfl rfl (zt_iconst rfl (zt_ireturn1)))))
set_option maxRecDepth 100000 in
theorem f64_71 : mj_find (mj_P 64).2.2.2.2 71 = [(.aload_n 0, 1, 0, []), (.invokevirtual 91, 3, 0, [0, 55, 6, 0, 0, 976, 978, 10, 150, 979])] := rfl
set_option maxRecDepth 100000 in
theorem q64_71 (E : mj_E) (d w c : Nat) (hi : Nat → Nat → Int32) (hl : Nat → Nat → Int64) (v1 : Int32) (v2 : Int32) : mj_den mj_P E d 64 71 [Value.ref 159, Value.int v1, Value.int v2] [] (mj_hw w c hi hl) = mj_bv (mj_dc mj_P E d 55 [Value.ref 159] (mj_hw w c hi hl)) (fun h1 => mj_den mj_P E d 64 75 [Value.ref 159, Value.int v1, Value.int v2] [] h1) := by
  rw [mj_den_eq, f64_71]
  exact zt_aload_n rfl rfl (zt_call0_0 rfl (mjkd159 _ _ _ _) (Nat.le_of_ble_eq_true rfl) rfl rfl)
set_option maxRecDepth 100000 in
theorem f64_75 : mj_find (mj_P 64).2.2.2.2 75 = [(.iinc 2 1, 3, 1, []), (.goto (-74), 3, 0, [4])] := rfl
set_option maxRecDepth 100000 in
theorem q64_75 (E : mj_E) (d w c : Nat) (hi : Nat → Nat → Int32) (hl : Nat → Nat → Int64) (v1 : Int32) (v2 : Int32) : mj_den mj_P E d 64 75 [Value.ref 159, Value.int v1, Value.int v2] [] (mj_hw w c hi hl) = mj_den mj_P E d 64 4 [Value.ref 159, Value.int v1, Value.int (v2 + (1 : Int32))] [] (mj_hw w c hi hl) := by
  rw [mj_den_eq, f64_75]
  exact zt_iinc rfl (Nat.le_of_ble_eq_true rfl) rfl rfl (zt_goto rfl)
set_option maxRecDepth 100000 in
theorem f64_81 : mj_find (mj_P 64).2.2.2.2 81 = [(.aload_n 0, 1, 0, []), (.iconst 1, 1, 1, []), (.invokevirtual 94, 3, 0, [0, 58, 6, 1, 1, 980, 982, 11, 150, 983])] := rfl
set_option maxRecDepth 100000 in
theorem q64_81 (E : mj_E) (d w c : Nat) (hi : Nat → Nat → Int32) (hl : Nat → Nat → Int64) (v1 : Int32) (v2 : Int32) : mj_den mj_P E d 64 81 [Value.ref 159, Value.int v1, Value.int v2] [] (mj_hw w c hi hl) = mj_bi (mj_dc mj_P E d 58 [Value.ref 159, Value.int (1 : Int32)] (mj_hw w c hi hl)) (fun x1 h1 => mj_den mj_P E d 64 86 [Value.ref 159, Value.int v1, Value.int v2] [Value.int x1] h1) := by
  rw [mj_den_eq, f64_81]
  exact zt_aload_n rfl rfl (zt_iconst rfl (zt_call0_1 rfl (mjkd159 _ _ _ _) (Nat.le_of_ble_eq_true rfl) rfl rfl))
set_option maxRecDepth 100000 in
theorem f64_86 : mj_find (mj_P 64).2.2.2.2 86 = [(.ireturn, 1, 0, [1])] := rfl
set_option maxRecDepth 100000 in
theorem q64_86 (E : mj_E) (d w c : Nat) (hi : Nat → Nat → Int32) (hl : Nat → Nat → Int64) (v1 : Int32) (v2 : Int32) (s0 : Int32) : mj_den mj_P E d 64 86 [Value.ref 159, Value.int v1, Value.int v2] [Value.int s0] (mj_hw w c hi hl) = if s0 = 0 ∨ s0 = 1 then some (some (Value.int s0), (mj_hw w c hi hl)) else none := by
  rw [mj_den_eq, f64_86]
  exact zt_ireturn1
set_option maxRecDepth 100000 in
theorem f65_0 : mj_find (mj_P 65).2.2.2.2 0 = [(.iconst (-1), 1, (-1), []), (.istore_n 1, 1, 0, []), (.iconst 0, 1, 0, []), (.istore_n 2, 1, 0, [])] := rfl
set_option maxRecDepth 100000 in
theorem q65_0 (E : mj_E) (d w c : Nat) (hi : Nat → Nat → Int32) (hl : Nat → Nat → Int64) : mj_den mj_P E d 65 0 [Value.ref 159, Value.float 0, Value.float 0, Value.float 0, Value.float 0] [] (mj_hw w c hi hl) = mj_den mj_P E d 65 4 [Value.ref 159, Value.int (-1 : Int32), Value.int (0 : Int32), Value.float 0, Value.float 0] [] (mj_hw w c hi hl) := by
  rw [mj_den_eq, f65_0]
  exact zt_iconst rfl (zt_istore_n (Nat.le_of_ble_eq_true rfl) rfl rfl (zt_iconst rfl (zt_istore_n (Nat.le_of_ble_eq_true rfl) rfl rfl (zt_end rfl))))
set_option maxRecDepth 100000 in
theorem f65_4 : mj_find (mj_P 65).2.2.2.2 4 = [(.iload_n 2, 1, 0, []), (.sipush 400, 3, 400, []), (.if_icmp .gt 206, 3, 0, [214]), (.aload_n 0, 1, 0, []), (.getfield 57, 3, 0, [6, 11, 0, 500]), (.iconst 1, 1, 1, []), (.if_icmp .ne 7, 3, 0, [23]), (.iconst 1, 1, 1, []), (.goto 4, 3, 0, [24])] := rfl
set_option maxRecDepth 100000 in
theorem q65_4 (E : mj_E) (d w c : Nat) (hi : Nat → Nat → Int32) (hl : Nat → Nat → Int64) (v1 : Int32) (v2 : Int32) : mj_den mj_P E d 65 4 [Value.ref 159, Value.int v1, Value.int v2, Value.float 0, Value.float 0] [] (mj_hw w c hi hl) = if (400 : Int32) < v2 then mj_den mj_P E d 65 214 [Value.ref 159, Value.int v1, Value.int v2, Value.float 0, Value.float 0] [] (mj_hw w c hi hl) else if ¬ (hi 159 11) = (1 : Int32) then mj_den mj_P E d 65 23 [Value.ref 159, Value.int v1, Value.int v2, Value.float 0, Value.float 0] [] (mj_hw w c hi hl) else mj_den mj_P E d 65 24 [Value.ref 159, Value.int v1, Value.int v2, Value.float 0, Value.float 0] [Value.int (1 : Int32)] (mj_hw w c hi hl) := by
  rw [mj_den_eq, f65_4]
  exact zt_iload_n rfl rfl (zt_sipush rfl (zt_icmp_gt rfl rfl (zt_aload_n rfl rfl (zt_geti (mjkd159 _ _ _ _) rfl rfl (zt_iconst rfl (zt_icmp_ne rfl rfl (zt_iconst rfl (zt_goto rfl))))))))
set_option maxRecDepth 100000 in
theorem q65_4_1 (E : mj_E) (d w c : Nat) (hi : Nat → Nat → Int32) (hl : Nat → Nat → Int64) (v1 : Int32) (v2 : Int32) (v3 : Int32) (v4 : Int32) : mj_den mj_P E d 65 4 [Value.ref 159, Value.int v1, Value.int v2, Value.int v3, Value.int v4] [] (mj_hw w c hi hl) = if (400 : Int32) < v2 then mj_den mj_P E d 65 214 [Value.ref 159, Value.int v1, Value.int v2, Value.int v3, Value.int v4] [] (mj_hw w c hi hl) else if ¬ (hi 159 11) = (1 : Int32) then mj_den mj_P E d 65 23 [Value.ref 159, Value.int v1, Value.int v2, Value.int v3, Value.int v4] [] (mj_hw w c hi hl) else mj_den mj_P E d 65 24 [Value.ref 159, Value.int v1, Value.int v2, Value.int v3, Value.int v4] [Value.int (1 : Int32)] (mj_hw w c hi hl) := by
  rw [mj_den_eq, f65_4]
  exact zt_iload_n rfl rfl (zt_sipush rfl (zt_icmp_gt rfl rfl (zt_aload_n rfl rfl (zt_geti (mjkd159 _ _ _ _) rfl rfl (zt_iconst rfl (zt_icmp_ne rfl rfl (zt_iconst rfl (zt_goto rfl))))))))
set_option maxRecDepth 100000 in
theorem f65_23 : mj_find (mj_P 65).2.2.2.2 23 = [(.iconst 0, 1, 0, [])] := rfl
set_option maxRecDepth 100000 in
theorem q65_23 (E : mj_E) (d w c : Nat) (hi : Nat → Nat → Int32) (hl : Nat → Nat → Int64) (v1 : Int32) (v2 : Int32) (v3 : Int32) (v4 : Int32) : mj_den mj_P E d 65 23 [Value.ref 159, Value.int v1, Value.int v2, Value.int v3, Value.int v4] [] (mj_hw w c hi hl) = mj_den mj_P E d 65 24 [Value.ref 159, Value.int v1, Value.int v2, Value.int v3, Value.int v4] [Value.int (0 : Int32)] (mj_hw w c hi hl) := by
  rw [mj_den_eq, f65_23]
  exact zt_iconst rfl (zt_end rfl)
set_option maxRecDepth 100000 in
theorem q65_23_1 (E : mj_E) (d w c : Nat) (hi : Nat → Nat → Int32) (hl : Nat → Nat → Int64) (v1 : Int32) (v2 : Int32) : mj_den mj_P E d 65 23 [Value.ref 159, Value.int v1, Value.int v2, Value.float 0, Value.float 0] [] (mj_hw w c hi hl) = mj_den mj_P E d 65 24 [Value.ref 159, Value.int v1, Value.int v2, Value.float 0, Value.float 0] [Value.int (0 : Int32)] (mj_hw w c hi hl) := by
  rw [mj_den_eq, f65_23]
  exact zt_iconst rfl (zt_end rfl)
set_option maxRecDepth 100000 in
theorem f65_24 : mj_find (mj_P 65).2.2.2.2 24 = [(.istore_n 3, 1, 0, []), (.aload_n 0, 1, 0, []), (.getfield 57, 3, 0, [6, 11, 0, 500]), (.iconst 2, 1, 2, []), (.if_icmp .ne 16, 3, 0, [46]), (.aload_n 0, 1, 0, []), (.getfield 60, 3, 0, [6, 12, 0, 501]), (.bipush 7, 2, 7, []), (.if_icmp .lt 7, 3, 0, [46]), (.iconst 1, 1, 1, []), (.goto 4, 3, 0, [47])] := rfl
set_option maxRecDepth 100000 in
theorem q65_24 (E : mj_E) (d w c : Nat) (hi : Nat → Nat → Int32) (hl : Nat → Nat → Int64) (v1 : Int32) (v2 : Int32) (s0 : Int32) : mj_den mj_P E d 65 24 [Value.ref 159, Value.int v1, Value.int v2, Value.float 0, Value.float 0] [Value.int s0] (mj_hw w c hi hl) = if ¬ (hi 159 11) = (2 : Int32) then mj_den mj_P E d 65 46 [Value.ref 159, Value.int v1, Value.int v2, Value.int s0, Value.float 0] [] (mj_hw w c hi hl) else if (hi 159 12) < (7 : Int32) then mj_den mj_P E d 65 46 [Value.ref 159, Value.int v1, Value.int v2, Value.int s0, Value.float 0] [] (mj_hw w c hi hl) else mj_den mj_P E d 65 47 [Value.ref 159, Value.int v1, Value.int v2, Value.int s0, Value.float 0] [Value.int (1 : Int32)] (mj_hw w c hi hl) := by
  rw [mj_den_eq, f65_24]
  exact zt_istore_n (Nat.le_of_ble_eq_true rfl) rfl rfl (zt_aload_n rfl rfl (zt_geti (mjkd159 _ _ _ _) rfl rfl (zt_iconst rfl (zt_icmp_ne rfl rfl (zt_aload_n rfl rfl (zt_geti (mjkd159 _ _ _ _) rfl rfl (zt_bipush rfl (zt_icmp_lt rfl rfl (zt_iconst rfl (zt_goto rfl))))))))))
set_option maxRecDepth 100000 in
theorem q65_24_1 (E : mj_E) (d w c : Nat) (hi : Nat → Nat → Int32) (hl : Nat → Nat → Int64) (v1 : Int32) (v2 : Int32) (v3 : Int32) (v4 : Int32) (s0 : Int32) : mj_den mj_P E d 65 24 [Value.ref 159, Value.int v1, Value.int v2, Value.int v3, Value.int v4] [Value.int s0] (mj_hw w c hi hl) = if ¬ (hi 159 11) = (2 : Int32) then mj_den mj_P E d 65 46 [Value.ref 159, Value.int v1, Value.int v2, Value.int s0, Value.int v4] [] (mj_hw w c hi hl) else if (hi 159 12) < (7 : Int32) then mj_den mj_P E d 65 46 [Value.ref 159, Value.int v1, Value.int v2, Value.int s0, Value.int v4] [] (mj_hw w c hi hl) else mj_den mj_P E d 65 47 [Value.ref 159, Value.int v1, Value.int v2, Value.int s0, Value.int v4] [Value.int (1 : Int32)] (mj_hw w c hi hl) := by
  rw [mj_den_eq, f65_24]
  exact zt_istore_n (Nat.le_of_ble_eq_true rfl) rfl rfl (zt_aload_n rfl rfl (zt_geti (mjkd159 _ _ _ _) rfl rfl (zt_iconst rfl (zt_icmp_ne rfl rfl (zt_aload_n rfl rfl (zt_geti (mjkd159 _ _ _ _) rfl rfl (zt_bipush rfl (zt_icmp_lt rfl rfl (zt_iconst rfl (zt_goto rfl))))))))))
set_option maxRecDepth 100000 in
theorem f65_46 : mj_find (mj_P 65).2.2.2.2 46 = [(.iconst 0, 1, 0, [])] := rfl
set_option maxRecDepth 100000 in
theorem q65_46 (E : mj_E) (d w c : Nat) (hi : Nat → Nat → Int32) (hl : Nat → Nat → Int64) (v1 : Int32) (v2 : Int32) (v3 : Int32) (v4 : Int32) : mj_den mj_P E d 65 46 [Value.ref 159, Value.int v1, Value.int v2, Value.int v3, Value.int v4] [] (mj_hw w c hi hl) = mj_den mj_P E d 65 47 [Value.ref 159, Value.int v1, Value.int v2, Value.int v3, Value.int v4] [Value.int (0 : Int32)] (mj_hw w c hi hl) := by
  rw [mj_den_eq, f65_46]
  exact zt_iconst rfl (zt_end rfl)
set_option maxRecDepth 100000 in
theorem q65_46_1 (E : mj_E) (d w c : Nat) (hi : Nat → Nat → Int32) (hl : Nat → Nat → Int64) (v1 : Int32) (v2 : Int32) (v3 : Int32) : mj_den mj_P E d 65 46 [Value.ref 159, Value.int v1, Value.int v2, Value.int v3, Value.float 0] [] (mj_hw w c hi hl) = mj_den mj_P E d 65 47 [Value.ref 159, Value.int v1, Value.int v2, Value.int v3, Value.float 0] [Value.int (0 : Int32)] (mj_hw w c hi hl) := by
  rw [mj_den_eq, f65_46]
  exact zt_iconst rfl (zt_end rfl)
set_option maxRecDepth 100000 in
theorem f65_47 : mj_find (mj_P 65).2.2.2.2 47 = [(.istore 4, 2, 0, []), (.iload_n 1, 1, 0, []), (.bipush 14, 2, 14, []), (.if_icmp .ne 10, 3, 0, [62]), (.iload_n 3, 1, 0, []), (.ifCond .ne 21, 3, 0, [77]), (.goto 12, 3, 0, [71])] := rfl
set_option maxRecDepth 100000 in
theorem q65_47 (E : mj_E) (d w c : Nat) (hi : Nat → Nat → Int32) (hl : Nat → Nat → Int64) (v1 : Int32) (v2 : Int32) (v3 : Int32) (s0 : Int32) : mj_den mj_P E d 65 47 [Value.ref 159, Value.int v1, Value.int v2, Value.int v3, Value.float 0] [Value.int s0] (mj_hw w c hi hl) = if ¬ v1 = (14 : Int32) then mj_den mj_P E d 65 62 [Value.ref 159, Value.int v1, Value.int v2, Value.int v3, Value.int s0] [] (mj_hw w c hi hl) else if ¬ v3 = 0 then mj_den mj_P E d 65 77 [Value.ref 159, Value.int v1, Value.int v2, Value.int v3, Value.int s0] [] (mj_hw w c hi hl) else mj_den mj_P E d 65 71 [Value.ref 159, Value.int v1, Value.int v2, Value.int v3, Value.int s0] [] (mj_hw w c hi hl) := by
  rw [mj_den_eq, f65_47]
  exact zt_istore (Nat.le_of_ble_eq_true rfl) rfl rfl (zt_iload_n rfl rfl (zt_bipush rfl (zt_icmp_ne rfl rfl (zt_iload_n rfl rfl (zt_if_ne rfl rfl (zt_goto rfl))))))
set_option maxRecDepth 100000 in
theorem q65_47_1 (E : mj_E) (d w c : Nat) (hi : Nat → Nat → Int32) (hl : Nat → Nat → Int64) (v1 : Int32) (v2 : Int32) (v3 : Int32) (v4 : Int32) (s0 : Int32) : mj_den mj_P E d 65 47 [Value.ref 159, Value.int v1, Value.int v2, Value.int v3, Value.int v4] [Value.int s0] (mj_hw w c hi hl) = if ¬ v1 = (14 : Int32) then mj_den mj_P E d 65 62 [Value.ref 159, Value.int v1, Value.int v2, Value.int v3, Value.int s0] [] (mj_hw w c hi hl) else if ¬ v3 = 0 then mj_den mj_P E d 65 77 [Value.ref 159, Value.int v1, Value.int v2, Value.int v3, Value.int s0] [] (mj_hw w c hi hl) else mj_den mj_P E d 65 71 [Value.ref 159, Value.int v1, Value.int v2, Value.int v3, Value.int s0] [] (mj_hw w c hi hl) := by
  rw [mj_den_eq, f65_47]
  exact zt_istore (Nat.le_of_ble_eq_true rfl) rfl rfl (zt_iload_n rfl rfl (zt_bipush rfl (zt_icmp_ne rfl rfl (zt_iload_n rfl rfl (zt_if_ne rfl rfl (zt_goto rfl))))))
set_option maxRecDepth 100000 in
theorem f65_62 : mj_find (mj_P 65).2.2.2.2 62 = [(.iload_n 3, 1, 0, []), (.ifCond .ne 14, 3, 0, [77]), (.iload 4, 2, 0, []), (.ifCond .ne 9, 3, 0, [77])] := rfl
set_option maxRecDepth 100000 in
theorem q65_62 (E : mj_E) (d w c : Nat) (hi : Nat → Nat → Int32) (hl : Nat → Nat → Int64) (v1 : Int32) (v2 : Int32) (v3 : Int32) (v4 : Int32) : mj_den mj_P E d 65 62 [Value.ref 159, Value.int v1, Value.int v2, Value.int v3, Value.int v4] [] (mj_hw w c hi hl) = if ¬ v3 = 0 then mj_den mj_P E d 65 77 [Value.ref 159, Value.int v1, Value.int v2, Value.int v3, Value.int v4] [] (mj_hw w c hi hl) else if ¬ v4 = 0 then mj_den mj_P E d 65 77 [Value.ref 159, Value.int v1, Value.int v2, Value.int v3, Value.int v4] [] (mj_hw w c hi hl) else mj_den mj_P E d 65 71 [Value.ref 159, Value.int v1, Value.int v2, Value.int v3, Value.int v4] [] (mj_hw w c hi hl) := by
  rw [mj_den_eq, f65_62]
  exact zt_iload_n rfl rfl (zt_if_ne rfl rfl (zt_iload rfl rfl (zt_if_ne rfl rfl (zt_end rfl))))
set_option maxRecDepth 100000 in
theorem f65_71 : mj_find (mj_P 65).2.2.2.2 71 = [(.aload_n 0, 1, 0, []), (.iconst 1, 1, 1, []), (.invokevirtual 94, 3, 0, [0, 58, 6, 1, 1, 980, 982, 11, 150, 983])] := rfl
set_option maxRecDepth 100000 in
theorem q65_71 (E : mj_E) (d w c : Nat) (hi : Nat → Nat → Int32) (hl : Nat → Nat → Int64) (v1 : Int32) (v2 : Int32) (v3 : Int32) (v4 : Int32) : mj_den mj_P E d 65 71 [Value.ref 159, Value.int v1, Value.int v2, Value.int v3, Value.int v4] [] (mj_hw w c hi hl) = mj_bi (mj_dc mj_P E d 58 [Value.ref 159, Value.int (1 : Int32)] (mj_hw w c hi hl)) (fun x1 h1 => mj_den mj_P E d 65 76 [Value.ref 159, Value.int v1, Value.int v2, Value.int v3, Value.int v4] [Value.int x1] h1) := by
  rw [mj_den_eq, f65_71]
  exact zt_aload_n rfl rfl (zt_iconst rfl (zt_call0_1 rfl (mjkd159 _ _ _ _) (Nat.le_of_ble_eq_true rfl) rfl rfl))
set_option maxRecDepth 100000 in
theorem f65_76 : mj_find (mj_P 65).2.2.2.2 76 = [(.ireturn, 1, 0, [1])] := rfl
set_option maxRecDepth 100000 in
theorem q65_76 (E : mj_E) (d w c : Nat) (hi : Nat → Nat → Int32) (hl : Nat → Nat → Int64) (v1 : Int32) (v2 : Int32) (v3 : Int32) (v4 : Int32) (s0 : Int32) : mj_den mj_P E d 65 76 [Value.ref 159, Value.int v1, Value.int v2, Value.int v3, Value.int v4] [Value.int s0] (mj_hw w c hi hl) = if s0 = 0 ∨ s0 = 1 then some (some (Value.int s0), (mj_hw w c hi hl)) else none := by
  rw [mj_den_eq, f65_76]
  exact zt_ireturn1
set_option maxRecDepth 100000 in
theorem f65_77 : mj_find (mj_P 65).2.2.2.2 77 = [(.iload_n 1, 1, 0, []), (.bipush 14, 2, 14, []), (.if_icmp .ne 32, 3, 0, [112]), (.aload_n 0, 1, 0, []), (.getfield 60, 3, 0, [6, 12, 0, 501]), (.ifCond .ne 9, 3, 0, [96]), (.aload_n 0, 1, 0, []), (.iconst 2, 1, 2, []), (.invokevirtual 94, 3, 0, [0, 58, 6, 1, 1, 980, 982, 11, 150, 983])] := rfl
set_option maxRecDepth 100000 in
theorem q65_77 (E : mj_E) (d w c : Nat) (hi : Nat → Nat → Int32) (hl : Nat → Nat → Int64) (v1 : Int32) (v2 : Int32) (v3 : Int32) (v4 : Int32) : mj_den mj_P E d 65 77 [Value.ref 159, Value.int v1, Value.int v2, Value.int v3, Value.int v4] [] (mj_hw w c hi hl) = if ¬ v1 = (14 : Int32) then mj_den mj_P E d 65 112 [Value.ref 159, Value.int v1, Value.int v2, Value.int v3, Value.int v4] [] (mj_hw w c hi hl) else if ¬ (hi 159 12) = 0 then mj_den mj_P E d 65 96 [Value.ref 159, Value.int v1, Value.int v2, Value.int v3, Value.int v4] [] (mj_hw w c hi hl) else mj_bi (mj_dc mj_P E d 58 [Value.ref 159, Value.int (2 : Int32)] (mj_hw w c hi hl)) (fun x1 h1 => mj_den mj_P E d 65 95 [Value.ref 159, Value.int v1, Value.int v2, Value.int v3, Value.int v4] [Value.int x1] h1) := by
  rw [mj_den_eq, f65_77]
  exact zt_iload_n rfl rfl (zt_bipush rfl (zt_icmp_ne rfl rfl (zt_aload_n rfl rfl (zt_geti (mjkd159 _ _ _ _) rfl rfl (zt_if_ne rfl rfl (zt_aload_n rfl rfl (zt_iconst rfl (zt_call0_1 rfl (mjkd159 _ _ _ _) (Nat.le_of_ble_eq_true rfl) rfl rfl))))))))
set_option maxRecDepth 100000 in
theorem f65_95 : mj_find (mj_P 65).2.2.2.2 95 = [(.ireturn, 1, 0, [1])] := rfl
set_option maxRecDepth 100000 in
theorem q65_95 (E : mj_E) (d w c : Nat) (hi : Nat → Nat → Int32) (hl : Nat → Nat → Int64) (v1 : Int32) (v2 : Int32) (v3 : Int32) (v4 : Int32) (s0 : Int32) : mj_den mj_P E d 65 95 [Value.ref 159, Value.int v1, Value.int v2, Value.int v3, Value.int v4] [Value.int s0] (mj_hw w c hi hl) = if s0 = 0 ∨ s0 = 1 then some (some (Value.int s0), (mj_hw w c hi hl)) else none := by
  rw [mj_den_eq, f65_95]
  exact zt_ireturn1
set_option maxRecDepth 100000 in
theorem f65_96 : mj_find (mj_P 65).2.2.2.2 96 = [(.aload_n 0, 1, 0, []), (.getfield 24, 3, 0, [6, 3, 3, 490]), (.bipush 14, 2, 14, []), (.aload_n 0, 1, 0, []), (.getfield 60, 3, 0, [6, 12, 0, 501]), (.invokevirtual 174, 3, 0, [0, 17, 2, 2, 0, 996, 997, 998, 146, 999])] := rfl
set_option maxRecDepth 100000 in
theorem q65_96 (E : mj_E) (d w c : Nat) (hi : Nat → Nat → Int32) (hl : Nat → Nat → Int64) (v1 : Int32) (v2 : Int32) (v3 : Int32) (v4 : Int32) : mj_den mj_P E d 65 96 [Value.ref 159, Value.int v1, Value.int v2, Value.int v3, Value.int v4] [] (mj_hw w c hi hl) = mj_bv (mj_dc mj_P E d 17 [Value.ref 160, Value.int (14 : Int32), Value.int (hi 159 12)] (mj_hw w c hi hl)) (fun h1 => mj_den mj_P E d 65 109 [Value.ref 159, Value.int v1, Value.int v2, Value.int v3, Value.int v4] [] h1) := by
  rw [mj_den_eq, f65_96]
  exact zt_aload_n rfl rfl (zt_getr (mjkd159 _ _ _ _) (mjhr159_3 w c) rfl (zt_bipush rfl (zt_aload_n rfl rfl (zt_geti (mjkd159 _ _ _ _) rfl rfl (zt_call0_0 rfl (mjkd160 _ _ _ _) (Nat.le_of_ble_eq_true rfl) rfl rfl)))))
set_option maxRecDepth 100000 in
theorem f65_109 : mj_find (mj_P 65).2.2.2.2 109 = [(.goto 38, 3, 0, [147])] := rfl
set_option maxRecDepth 100000 in
theorem q65_109 (E : mj_E) (d w c : Nat) (hi : Nat → Nat → Int32) (hl : Nat → Nat → Int64) (v1 : Int32) (v2 : Int32) (v3 : Int32) (v4 : Int32) : mj_den mj_P E d 65 109 [Value.ref 159, Value.int v1, Value.int v2, Value.int v3, Value.int v4] [] (mj_hw w c hi hl) = mj_den mj_P E d 65 147 [Value.ref 159, Value.int v1, Value.int v2, Value.int v3, Value.int v4] [] (mj_hw w c hi hl) := by
  rw [mj_den_eq, f65_109]
  exact zt_goto rfl
set_option maxRecDepth 100000 in
theorem f65_112 : mj_find (mj_P 65).2.2.2.2 112 = [(.aload_n 0, 1, 0, []), (.getfield 24, 3, 0, [6, 3, 3, 490]), (.iload_n 3, 1, 0, []), (.ifCond .eq 8, 3, 0, [125]), (.bipush 10, 2, 10, []), (.goto 10, 3, 0, [132])] := rfl
set_option maxRecDepth 100000 in
theorem q65_112 (E : mj_E) (d w c : Nat) (hi : Nat → Nat → Int32) (hl : Nat → Nat → Int64) (v1 : Int32) (v2 : Int32) (v3 : Int32) (v4 : Int32) : mj_den mj_P E d 65 112 [Value.ref 159, Value.int v1, Value.int v2, Value.int v3, Value.int v4] [] (mj_hw w c hi hl) = if v3 = 0 then mj_den mj_P E d 65 125 [Value.ref 159, Value.int v1, Value.int v2, Value.int v3, Value.int v4] [Value.ref 160] (mj_hw w c hi hl) else mj_den mj_P E d 65 132 [Value.ref 159, Value.int v1, Value.int v2, Value.int v3, Value.int v4] [Value.int (10 : Int32), Value.ref 160] (mj_hw w c hi hl) := by
  rw [mj_den_eq, f65_112]
  exact zt_aload_n rfl rfl (zt_getr (mjkd159 _ _ _ _) (mjhr159_3 w c) rfl (zt_iload_n rfl rfl (zt_if_eq rfl rfl (zt_bipush rfl (zt_goto rfl)))))
set_option maxRecDepth 100000 in
theorem f65_125 : mj_find (mj_P 65).2.2.2.2 125 = [(.aload_n 0, 1, 0, []), (.getfield 60, 3, 0, [6, 12, 0, 501]), (.bipush 7, 2, 7, []), (.isub, 1, 0, [])] := rfl
set_option maxRecDepth 100000 in
theorem q65_125 (E : mj_E) (d w c : Nat) (hi : Nat → Nat → Int32) (hl : Nat → Nat → Int64) (v1 : Int32) (v2 : Int32) (v3 : Int32) (v4 : Int32) : mj_den mj_P E d 65 125 [Value.ref 159, Value.int v1, Value.int v2, Value.int v3, Value.int v4] [Value.ref 160] (mj_hw w c hi hl) = mj_den mj_P E d 65 132 [Value.ref 159, Value.int v1, Value.int v2, Value.int v3, Value.int v4] [Value.int ((hi 159 12) - (7 : Int32)), Value.ref 160] (mj_hw w c hi hl) := by
  rw [mj_den_eq, f65_125]
  exact zt_aload_n rfl rfl (zt_geti (mjkd159 _ _ _ _) rfl rfl (zt_bipush rfl (zt_isub rfl (zt_end rfl))))
set_option maxRecDepth 100000 in
theorem f65_132 : mj_find (mj_P 65).2.2.2.2 132 = [(.iload_n 3, 1, 0, []), (.ifCond .eq 10, 3, 0, [143]), (.aload_n 0, 1, 0, []), (.getfield 60, 3, 0, [6, 12, 0, 501]), (.goto 4, 3, 0, [144])] := rfl
set_option maxRecDepth 100000 in
theorem q65_132 (E : mj_E) (d w c : Nat) (hi : Nat → Nat → Int32) (hl : Nat → Nat → Int64) (v1 : Int32) (v2 : Int32) (v3 : Int32) (v4 : Int32) (s0 : Int32) : mj_den mj_P E d 65 132 [Value.ref 159, Value.int v1, Value.int v2, Value.int v3, Value.int v4] [Value.int s0, Value.ref 160] (mj_hw w c hi hl) = if v3 = 0 then mj_den mj_P E d 65 143 [Value.ref 159, Value.int v1, Value.int v2, Value.int v3, Value.int v4] [Value.int s0, Value.ref 160] (mj_hw w c hi hl) else mj_den mj_P E d 65 144 [Value.ref 159, Value.int v1, Value.int v2, Value.int v3, Value.int v4] [Value.int (hi 159 12), Value.int s0, Value.ref 160] (mj_hw w c hi hl) := by
  rw [mj_den_eq, f65_132]
  exact zt_iload_n rfl rfl (zt_if_eq rfl rfl (zt_aload_n rfl rfl (zt_geti (mjkd159 _ _ _ _) rfl rfl (zt_goto rfl))))
set_option maxRecDepth 100000 in
theorem f65_143 : mj_find (mj_P 65).2.2.2.2 143 = [(.iconst 0, 1, 0, [])] := rfl
set_option maxRecDepth 100000 in
theorem q65_143 (E : mj_E) (d w c : Nat) (hi : Nat → Nat → Int32) (hl : Nat → Nat → Int64) (v1 : Int32) (v2 : Int32) (v3 : Int32) (v4 : Int32) (s0 : Int32) : mj_den mj_P E d 65 143 [Value.ref 159, Value.int v1, Value.int v2, Value.int v3, Value.int v4] [Value.int s0, Value.ref 160] (mj_hw w c hi hl) = mj_den mj_P E d 65 144 [Value.ref 159, Value.int v1, Value.int v2, Value.int v3, Value.int v4] [Value.int (0 : Int32), Value.int s0, Value.ref 160] (mj_hw w c hi hl) := by
  rw [mj_den_eq, f65_143]
  exact zt_iconst rfl (zt_end rfl)
set_option maxRecDepth 100000 in
theorem f65_144 : mj_find (mj_P 65).2.2.2.2 144 = [(.invokevirtual 174, 3, 0, [0, 17, 2, 2, 0, 996, 997, 998, 146, 999])] := rfl
set_option maxRecDepth 100000 in
theorem q65_144 (E : mj_E) (d w c : Nat) (hi : Nat → Nat → Int32) (hl : Nat → Nat → Int64) (v1 : Int32) (v2 : Int32) (v3 : Int32) (v4 : Int32) (s0 : Int32) (s1 : Int32) : mj_den mj_P E d 65 144 [Value.ref 159, Value.int v1, Value.int v2, Value.int v3, Value.int v4] [Value.int s0, Value.int s1, Value.ref 160] (mj_hw w c hi hl) = mj_bv (mj_dc mj_P E d 17 [Value.ref 160, Value.int s1, Value.int s0] (mj_hw w c hi hl)) (fun h1 => mj_den mj_P E d 65 147 [Value.ref 159, Value.int v1, Value.int v2, Value.int v3, Value.int v4] [] h1) := by
  rw [mj_den_eq, f65_144]
  exact zt_call0_0 rfl (mjkd160 _ _ _ _) (Nat.le_of_ble_eq_true rfl) rfl rfl
set_option maxRecDepth 100000 in
theorem f65_147 : mj_find (mj_P 65).2.2.2.2 147 = [(.iload_n 1, 1, 0, []), (.bipush 13, 2, 13, []), (.if_icmp .ne 13, 3, 0, [163]), (.aload_n 0, 1, 0, []), (.getfield 24, 3, 0, [6, 3, 3, 490]), (.bipush 13, 2, 13, []), (.iconst 0, 1, 0, []), (.invokevirtual 174, 3, 0, [0, 17, 2, 2, 0, 996, 997, 998, 146, 999])] := rfl
set_option maxRecDepth 100000 in
theorem q65_147 (E : mj_E) (d w c : Nat) (hi : Nat → Nat → Int32) (hl : Nat → Nat → Int64) (v1 : Int32) (v2 : Int32) (v3 : Int32) (v4 : Int32) : mj_den mj_P E d 65 147 [Value.ref 159, Value.int v1, Value.int v2, Value.int v3, Value.int v4] [] (mj_hw w c hi hl) = if ¬ v1 = (13 : Int32) then mj_den mj_P E d 65 163 [Value.ref 159, Value.int v1, Value.int v2, Value.int v3, Value.int v4] [] (mj_hw w c hi hl) else mj_bv (mj_dc mj_P E d 17 [Value.ref 160, Value.int (13 : Int32), Value.int (0 : Int32)] (mj_hw w c hi hl)) (fun h1 => mj_den mj_P E d 65 163 [Value.ref 159, Value.int v1, Value.int v2, Value.int v3, Value.int v4] [] h1) := by
  rw [mj_den_eq, f65_147]
  exact zt_iload_n rfl rfl (zt_bipush rfl (zt_icmp_ne rfl rfl (zt_aload_n rfl rfl (zt_getr (mjkd159 _ _ _ _) (mjhr159_3 w c) rfl (zt_bipush rfl (zt_iconst rfl (zt_call0_0 rfl (mjkd160 _ _ _ _) (Nat.le_of_ble_eq_true rfl) rfl rfl)))))))
set_option maxRecDepth 100000 in
theorem f65_163 : mj_find (mj_P 65).2.2.2.2 163 = [(.aload_n 0, 1, 0, []), (.invokevirtual 91, 3, 0, [0, 55, 6, 0, 0, 976, 978, 10, 150, 979])] := rfl
set_option maxRecDepth 100000 in
theorem q65_163 (E : mj_E) (d w c : Nat) (hi : Nat → Nat → Int32) (hl : Nat → Nat → Int64) (v1 : Int32) (v2 : Int32) (v3 : Int32) (v4 : Int32) : mj_den mj_P E d 65 163 [Value.ref 159, Value.int v1, Value.int v2, Value.int v3, Value.int v4] [] (mj_hw w c hi hl) = mj_bv (mj_dc mj_P E d 55 [Value.ref 159] (mj_hw w c hi hl)) (fun h1 => mj_den mj_P E d 65 167 [Value.ref 159, Value.int v1, Value.int v2, Value.int v3, Value.int v4] [] h1) := by
  rw [mj_den_eq, f65_163]
  exact zt_aload_n rfl rfl (zt_call0_0 rfl (mjkd159 _ _ _ _) (Nat.le_of_ble_eq_true rfl) rfl rfl)
set_option maxRecDepth 100000 in
theorem f65_167 : mj_find (mj_P 65).2.2.2.2 167 = [(.aload_n 0, 1, 0, []), (.bipush 42, 2, 42, []), (.invokevirtual 147, 3, 0, [0, 56, 6, 1, 1, 1000, 1002, 15, 150, 1003])] := rfl
set_option maxRecDepth 100000 in
theorem q65_167 (E : mj_E) (d w c : Nat) (hi : Nat → Nat → Int32) (hl : Nat → Nat → Int64) (v1 : Int32) (v2 : Int32) (v3 : Int32) (v4 : Int32) : mj_den mj_P E d 65 167 [Value.ref 159, Value.int v1, Value.int v2, Value.int v3, Value.int v4] [] (mj_hw w c hi hl) = mj_bi (mj_dc mj_P E d 56 [Value.ref 159, Value.int (42 : Int32)] (mj_hw w c hi hl)) (fun x1 h1 => mj_den mj_P E d 65 173 [Value.ref 159, Value.int v1, Value.int v2, Value.int v3, Value.int v4] [Value.int x1] h1) := by
  rw [mj_den_eq, f65_167]
  exact zt_aload_n rfl rfl (zt_bipush rfl (zt_call0_1 rfl (mjkd159 _ _ _ _) (Nat.le_of_ble_eq_true rfl) rfl rfl))
set_option maxRecDepth 100000 in
theorem f65_173 : mj_find (mj_P 65).2.2.2.2 173 = [(.ifCond .eq 8, 3, 0, [181]), (.bipush 13, 2, 13, []), (.goto 18, 3, 0, [196])] := rfl
set_option maxRecDepth 100000 in
theorem q65_173 (E : mj_E) (d w c : Nat) (hi : Nat → Nat → Int32) (hl : Nat → Nat → Int64) (v1 : Int32) (v2 : Int32) (v3 : Int32) (v4 : Int32) (s0 : Int32) : mj_den mj_P E d 65 173 [Value.ref 159, Value.int v1, Value.int v2, Value.int v3, Value.int v4] [Value.int s0] (mj_hw w c hi hl) = if s0 = 0 then mj_den mj_P E d 65 181 [Value.ref 159, Value.int v1, Value.int v2, Value.int v3, Value.int v4] [] (mj_hw w c hi hl) else mj_den mj_P E d 65 196 [Value.ref 159, Value.int v1, Value.int v2, Value.int v3, Value.int v4] [Value.int (13 : Int32)] (mj_hw w c hi hl) := by
  rw [mj_den_eq, f65_173]
  exact zt_if_eq rfl rfl (zt_bipush rfl (zt_goto rfl))
set_option maxRecDepth 100000 in
theorem f65_181 : mj_find (mj_P 65).2.2.2.2 181 = [(.aload_n 0, 1, 0, []), (.bipush 47, 2, 47, []), (.invokevirtual 147, 3, 0, [0, 56, 6, 1, 1, 1000, 1002, 15, 150, 1003])] := rfl
set_option maxRecDepth 100000 in
theorem q65_181 (E : mj_E) (d w c : Nat) (hi : Nat → Nat → Int32) (hl : Nat → Nat → Int64) (v1 : Int32) (v2 : Int32) (v3 : Int32) (v4 : Int32) : mj_den mj_P E d 65 181 [Value.ref 159, Value.int v1, Value.int v2, Value.int v3, Value.int v4] [] (mj_hw w c hi hl) = mj_bi (mj_dc mj_P E d 56 [Value.ref 159, Value.int (47 : Int32)] (mj_hw w c hi hl)) (fun x1 h1 => mj_den mj_P E d 65 187 [Value.ref 159, Value.int v1, Value.int v2, Value.int v3, Value.int v4] [Value.int x1] h1) := by
  rw [mj_den_eq, f65_181]
  exact zt_aload_n rfl rfl (zt_bipush rfl (zt_call0_1 rfl (mjkd159 _ _ _ _) (Nat.le_of_ble_eq_true rfl) rfl rfl))
set_option maxRecDepth 100000 in
theorem f65_187 : mj_find (mj_P 65).2.2.2.2 187 = [(.ifCond .eq 8, 3, 0, [195]), (.bipush 14, 2, 14, []), (.goto 4, 3, 0, [196])] := rfl
set_option maxRecDepth 100000 in
theorem q65_187 (E : mj_E) (d w c : Nat) (hi : Nat → Nat → Int32) (hl : Nat → Nat → Int64) (v1 : Int32) (v2 : Int32) (v3 : Int32) (v4 : Int32) (s0 : Int32) : mj_den mj_P E d 65 187 [Value.ref 159, Value.int v1, Value.int v2, Value.int v3, Value.int v4] [Value.int s0] (mj_hw w c hi hl) = if s0 = 0 then mj_den mj_P E d 65 195 [Value.ref 159, Value.int v1, Value.int v2, Value.int v3, Value.int v4] [] (mj_hw w c hi hl) else mj_den mj_P E d 65 196 [Value.ref 159, Value.int v1, Value.int v2, Value.int v3, Value.int v4] [Value.int (14 : Int32)] (mj_hw w c hi hl) := by
  rw [mj_den_eq, f65_187]
  exact zt_if_eq rfl rfl (zt_bipush rfl (zt_goto rfl))
set_option maxRecDepth 100000 in
theorem f65_195 : mj_find (mj_P 65).2.2.2.2 195 = [(.iconst (-1), 1, (-1), [])] := rfl
set_option maxRecDepth 100000 in
theorem q65_195 (E : mj_E) (d w c : Nat) (hi : Nat → Nat → Int32) (hl : Nat → Nat → Int64) (v1 : Int32) (v2 : Int32) (v3 : Int32) (v4 : Int32) : mj_den mj_P E d 65 195 [Value.ref 159, Value.int v1, Value.int v2, Value.int v3, Value.int v4] [] (mj_hw w c hi hl) = mj_den mj_P E d 65 196 [Value.ref 159, Value.int v1, Value.int v2, Value.int v3, Value.int v4] [Value.int (-1 : Int32)] (mj_hw w c hi hl) := by
  rw [mj_den_eq, f65_195]
  exact zt_iconst rfl (zt_end rfl)
set_option maxRecDepth 100000 in
theorem f65_196 : mj_find (mj_P 65).2.2.2.2 196 = [(.istore_n 1, 1, 0, []), (.iload_n 1, 1, 0, []), (.iconst (-1), 1, (-1), []), (.if_icmp .ne 5, 3, 0, [204]), (.iconst 1, 1, 1, []), (.ireturn, 1, 0, [1])] := rfl
set_option maxRecDepth 100000 in
theorem q65_196 (E : mj_E) (d w c : Nat) (hi : Nat → Nat → Int32) (hl : Nat → Nat → Int64) (v1 : Int32) (v2 : Int32) (v3 : Int32) (v4 : Int32) (s0 : Int32) : mj_den mj_P E d 65 196 [Value.ref 159, Value.int v1, Value.int v2, Value.int v3, Value.int v4] [Value.int s0] (mj_hw w c hi hl) = if ¬ s0 = (-1 : Int32) then mj_den mj_P E d 65 204 [Value.ref 159, Value.int s0, Value.int v2, Value.int v3, Value.int v4] [] (mj_hw w c hi hl) else if (1 : Int32) = 0 ∨ (1 : Int32) = 1 then some (some (Value.int (1 : Int32)), (mj_hw w c hi hl)) else none := by
  rw [mj_den_eq, f65_196]
  exact zt_istore_n (Nat.le_of_ble_eq_true rfl) rfl rfl (zt_iload_n rfl rfl (zt_iconst rfl (zt_icmp_ne rfl rfl (zt_iconst rfl (zt_ireturn1)))))
set_option maxRecDepth 100000 in
theorem f65_204 : mj_find (mj_P 65).2.2.2.2 204 = [(.aload_n 0, 1, 0, []), (.invokevirtual 91, 3, 0, [0, 55, 6, 0, 0, 976, 978, 10, 150, 979])] := rfl
set_option maxRecDepth 100000 in
theorem q65_204 (E : mj_E) (d w c : Nat) (hi : Nat → Nat → Int32) (hl : Nat → Nat → Int64) (v1 : Int32) (v2 : Int32) (v3 : Int32) (v4 : Int32) : mj_den mj_P E d 65 204 [Value.ref 159, Value.int v1, Value.int v2, Value.int v3, Value.int v4] [] (mj_hw w c hi hl) = mj_bv (mj_dc mj_P E d 55 [Value.ref 159] (mj_hw w c hi hl)) (fun h1 => mj_den mj_P E d 65 208 [Value.ref 159, Value.int v1, Value.int v2, Value.int v3, Value.int v4] [] h1) := by
  rw [mj_den_eq, f65_204]
  exact zt_aload_n rfl rfl (zt_call0_0 rfl (mjkd159 _ _ _ _) (Nat.le_of_ble_eq_true rfl) rfl rfl)
set_option maxRecDepth 100000 in
theorem f65_208 : mj_find (mj_P 65).2.2.2.2 208 = [(.iinc 2 1, 3, 1, []), (.goto (-207), 3, 0, [4])] := rfl
set_option maxRecDepth 100000 in
theorem q65_208 (E : mj_E) (d w c : Nat) (hi : Nat → Nat → Int32) (hl : Nat → Nat → Int64) (v1 : Int32) (v2 : Int32) (v3 : Int32) (v4 : Int32) : mj_den mj_P E d 65 208 [Value.ref 159, Value.int v1, Value.int v2, Value.int v3, Value.int v4] [] (mj_hw w c hi hl) = mj_den mj_P E d 65 4 [Value.ref 159, Value.int v1, Value.int (v2 + (1 : Int32)), Value.int v3, Value.int v4] [] (mj_hw w c hi hl) := by
  rw [mj_den_eq, f65_208]
  exact zt_iinc rfl (Nat.le_of_ble_eq_true rfl) rfl rfl (zt_goto rfl)
set_option maxRecDepth 100000 in
theorem f65_214 : mj_find (mj_P 65).2.2.2.2 214 = [(.aload_n 0, 1, 0, []), (.iconst 1, 1, 1, []), (.invokevirtual 94, 3, 0, [0, 58, 6, 1, 1, 980, 982, 11, 150, 983])] := rfl
set_option maxRecDepth 100000 in
theorem q65_214 (E : mj_E) (d w c : Nat) (hi : Nat → Nat → Int32) (hl : Nat → Nat → Int64) (v1 : Int32) (v2 : Int32) (v3 : Int32) (v4 : Int32) : mj_den mj_P E d 65 214 [Value.ref 159, Value.int v1, Value.int v2, Value.int v3, Value.int v4] [] (mj_hw w c hi hl) = mj_bi (mj_dc mj_P E d 58 [Value.ref 159, Value.int (1 : Int32)] (mj_hw w c hi hl)) (fun x1 h1 => mj_den mj_P E d 65 219 [Value.ref 159, Value.int v1, Value.int v2, Value.int v3, Value.int v4] [Value.int x1] h1) := by
  rw [mj_den_eq, f65_214]
  exact zt_aload_n rfl rfl (zt_iconst rfl (zt_call0_1 rfl (mjkd159 _ _ _ _) (Nat.le_of_ble_eq_true rfl) rfl rfl))
set_option maxRecDepth 100000 in
theorem q65_214_1 (E : mj_E) (d w c : Nat) (hi : Nat → Nat → Int32) (hl : Nat → Nat → Int64) (v1 : Int32) (v2 : Int32) : mj_den mj_P E d 65 214 [Value.ref 159, Value.int v1, Value.int v2, Value.float 0, Value.float 0] [] (mj_hw w c hi hl) = mj_bi (mj_dc mj_P E d 58 [Value.ref 159, Value.int (1 : Int32)] (mj_hw w c hi hl)) (fun x1 h1 => mj_den mj_P E d 65 219 [Value.ref 159, Value.int v1, Value.int v2, Value.float 0, Value.float 0] [Value.int x1] h1) := by
  rw [mj_den_eq, f65_214]
  exact zt_aload_n rfl rfl (zt_iconst rfl (zt_call0_1 rfl (mjkd159 _ _ _ _) (Nat.le_of_ble_eq_true rfl) rfl rfl))
set_option maxRecDepth 100000 in
theorem f65_219 : mj_find (mj_P 65).2.2.2.2 219 = [(.ireturn, 1, 0, [1])] := rfl
set_option maxRecDepth 100000 in
theorem q65_219 (E : mj_E) (d w c : Nat) (hi : Nat → Nat → Int32) (hl : Nat → Nat → Int64) (v1 : Int32) (v2 : Int32) (v3 : Int32) (v4 : Int32) (s0 : Int32) : mj_den mj_P E d 65 219 [Value.ref 159, Value.int v1, Value.int v2, Value.int v3, Value.int v4] [Value.int s0] (mj_hw w c hi hl) = if s0 = 0 ∨ s0 = 1 then some (some (Value.int s0), (mj_hw w c hi hl)) else none := by
  rw [mj_den_eq, f65_219]
  exact zt_ireturn1
set_option maxRecDepth 100000 in
theorem q65_219_1 (E : mj_E) (d w c : Nat) (hi : Nat → Nat → Int32) (hl : Nat → Nat → Int64) (v1 : Int32) (v2 : Int32) (s0 : Int32) : mj_den mj_P E d 65 219 [Value.ref 159, Value.int v1, Value.int v2, Value.float 0, Value.float 0] [Value.int s0] (mj_hw w c hi hl) = if s0 = 0 ∨ s0 = 1 then some (some (Value.int s0), (mj_hw w c hi hl)) else none := by
  rw [mj_den_eq, f65_219]
  exact zt_ireturn1
set_option maxRecDepth 100000 in
theorem f66_0 : mj_find (mj_P 66).2.2.2.2 0 = [(.aload_n 0, 1, 0, []), (.invokevirtual 91, 3, 0, [0, 55, 6, 0, 0, 976, 978, 10, 150, 979])] := rfl
set_option maxRecDepth 100000 in
theorem q66_0 (E : mj_E) (d w c : Nat) (hi : Nat → Nat → Int32) (hl : Nat → Nat → Int64) : mj_den mj_P E d 66 0 [Value.ref 159, Value.float 0, Value.float 0] [] (mj_hw w c hi hl) = mj_bv (mj_dc mj_P E d 55 [Value.ref 159] (mj_hw w c hi hl)) (fun h1 => mj_den mj_P E d 66 4 [Value.ref 159, Value.float 0, Value.float 0] [] h1) := by
  rw [mj_den_eq, f66_0]
  exact zt_aload_n rfl rfl (zt_call0_0 rfl (mjkd159 _ _ _ _) (Nat.le_of_ble_eq_true rfl) rfl rfl)
set_option maxRecDepth 100000 in
theorem f66_4 : mj_find (mj_P 66).2.2.2.2 4 = [(.aload_n 0, 1, 0, []), (.getfield 60, 3, 0, [6, 12, 0, 501]), (.istore_n 1, 1, 0, []), (.aload_n 0, 1, 0, []), (.iconst 0, 1, 0, []), (.bipush 7, 2, 7, []), (.invokevirtual 181, 3, 0, [0, 60, 6, 2, 1, 1024, 1026, 21, 150, 1027])] := rfl
set_option maxRecDepth 100000 in
theorem q66_4 (E : mj_E) (d w c : Nat) (hi : Nat → Nat → Int32) (hl : Nat → Nat → Int64) : mj_den mj_P E d 66 4 [Value.ref 159, Value.float 0, Value.float 0] [] (mj_hw w c hi hl) = mj_bi (mj_dc mj_P E d 60 [Value.ref 159, Value.int (0 : Int32), Value.int (7 : Int32)] (mj_hw w c hi hl)) (fun x1 h1 => mj_den mj_P E d 66 16 [Value.ref 159, Value.int (hi 159 12), Value.float 0] [Value.int x1] h1) := by
  rw [mj_den_eq, f66_4]
  exact zt_aload_n rfl rfl (zt_geti (mjkd159 _ _ _ _) rfl rfl (zt_istore_n (Nat.le_of_ble_eq_true rfl) rfl rfl (zt_aload_n rfl rfl (zt_iconst rfl (zt_bipush rfl (zt_call0_1 rfl (mjkd159 _ _ _ _) (Nat.le_of_ble_eq_true rfl) rfl rfl))))))
set_option maxRecDepth 100000 in
theorem f66_16 : mj_find (mj_P 66).2.2.2.2 16 = [(.ifCond .ne 5, 3, 0, [21]), (.iconst 0, 1, 0, []), (.ireturn, 1, 0, [1])] := rfl
set_option maxRecDepth 100000 in
theorem q66_16 (E : mj_E) (d w c : Nat) (hi : Nat → Nat → Int32) (hl : Nat → Nat → Int64) (v1 : Int32) (s0 : Int32) : mj_den mj_P E d 66 16 [Value.ref 159, Value.int v1, Value.float 0] [Value.int s0] (mj_hw w c hi hl) = if ¬ s0 = 0 then mj_den mj_P E d 66 21 [Value.ref 159, Value.int v1, Value.float 0] [] (mj_hw w c hi hl) else if (0 : Int32) = 0 ∨ (0 : Int32) = 1 then some (some (Value.int (0 : Int32)), (mj_hw w c hi hl)) else none := by
  rw [mj_den_eq, f66_16]
  exact zt_if_ne rfl rfl (zt_iconst rfl (zt_ireturn1))
set_option maxRecDepth 100000 in
theorem f66_21 : mj_find (mj_P 66).2.2.2.2 21 = [(.iconst 1, 1, 1, []), (.istore_n 2, 1, 0, []), (.aload_n 0, 1, 0, []), (.iconst 1, 1, 1, []), (.invokevirtual 161, 3, 0, [0, 57, 6, 1, 1, 1004, 1006, 16, 150, 1007])] := rfl
set_option maxRecDepth 100000 in
theorem q66_21 (E : mj_E) (d w c : Nat) (hi : Nat → Nat → Int32) (hl : Nat → Nat → Int64) (v1 : Int32) : mj_den mj_P E d 66 21 [Value.ref 159, Value.int v1, Value.float 0] [] (mj_hw w c hi hl) = mj_bi (mj_dc mj_P E d 57 [Value.ref 159, Value.int (1 : Int32)] (mj_hw w c hi hl)) (fun x1 h1 => mj_den mj_P E d 66 28 [Value.ref 159, Value.int v1, Value.int (1 : Int32)] [Value.int x1] h1) := by
  rw [mj_den_eq, f66_21]
  exact zt_iconst rfl (zt_istore_n (Nat.le_of_ble_eq_true rfl) rfl rfl (zt_aload_n rfl rfl (zt_iconst rfl (zt_call0_1 rfl (mjkd159 _ _ _ _) (Nat.le_of_ble_eq_true rfl) rfl rfl))))
set_option maxRecDepth 100000 in
theorem f66_28 : mj_find (mj_P 66).2.2.2.2 28 = [(.ifCond .eq 24, 3, 0, [52]), (.aload_n 0, 1, 0, []), (.invokevirtual 91, 3, 0, [0, 55, 6, 0, 0, 976, 978, 10, 150, 979])] := rfl
set_option maxRecDepth 100000 in
theorem q66_28 (E : mj_E) (d w c : Nat) (hi : Nat → Nat → Int32) (hl : Nat → Nat → Int64) (v1 : Int32) (v2 : Int32) (s0 : Int32) : mj_den mj_P E d 66 28 [Value.ref 159, Value.int v1, Value.int v2] [Value.int s0] (mj_hw w c hi hl) = if s0 = 0 then mj_den mj_P E d 66 52 [Value.ref 159, Value.int v1, Value.int v2] [] (mj_hw w c hi hl) else mj_bv (mj_dc mj_P E d 55 [Value.ref 159] (mj_hw w c hi hl)) (fun h1 => mj_den mj_P E d 66 35 [Value.ref 159, Value.int v1, Value.int v2] [] h1) := by
  rw [mj_den_eq, f66_28]
  exact zt_if_eq rfl rfl (zt_aload_n rfl rfl (zt_call0_0 rfl (mjkd159 _ _ _ _) (Nat.le_of_ble_eq_true rfl) rfl rfl))
set_option maxRecDepth 100000 in
theorem f66_35 : mj_find (mj_P 66).2.2.2.2 35 = [(.aload_n 0, 1, 0, []), (.getfield 60, 3, 0, [6, 12, 0, 501]), (.istore_n 2, 1, 0, []), (.aload_n 0, 1, 0, []), (.iconst 1, 1, 1, []), (.bipush 60, 2, 60, []), (.invokevirtual 181, 3, 0, [0, 60, 6, 2, 1, 1024, 1026, 21, 150, 1027])] := rfl
set_option maxRecDepth 100000 in
theorem q66_35 (E : mj_E) (d w c : Nat) (hi : Nat → Nat → Int32) (hl : Nat → Nat → Int64) (v1 : Int32) (v2 : Int32) : mj_den mj_P E d 66 35 [Value.ref 159, Value.int v1, Value.int v2] [] (mj_hw w c hi hl) = mj_bi (mj_dc mj_P E d 60 [Value.ref 159, Value.int (1 : Int32), Value.int (60 : Int32)] (mj_hw w c hi hl)) (fun x1 h1 => mj_den mj_P E d 66 47 [Value.ref 159, Value.int v1, Value.int (hi 159 12)] [Value.int x1] h1) := by
  rw [mj_den_eq, f66_35]
  exact zt_aload_n rfl rfl (zt_geti (mjkd159 _ _ _ _) rfl rfl (zt_istore_n (Nat.le_of_ble_eq_true rfl) rfl rfl (zt_aload_n rfl rfl (zt_iconst rfl (zt_bipush rfl (zt_call0_1 rfl (mjkd159 _ _ _ _) (Nat.le_of_ble_eq_true rfl) rfl rfl))))))
set_option maxRecDepth 100000 in
theorem f66_47 : mj_find (mj_P 66).2.2.2.2 47 = [(.ifCond .ne 5, 3, 0, [52]), (.iconst 0, 1, 0, []), (.ireturn, 1, 0, [1])] := rfl
set_option maxRecDepth 100000 in
theorem q66_47 (E : mj_E) (d w c : Nat) (hi : Nat → Nat → Int32) (hl : Nat → Nat → Int64) (v1 : Int32) (v2 : Int32) (s0 : Int32) : mj_den mj_P E d 66 47 [Value.ref 159, Value.int v1, Value.int v2] [Value.int s0] (mj_hw w c hi hl) = if ¬ s0 = 0 then mj_den mj_P E d 66 52 [Value.ref 159, Value.int v1, Value.int v2] [] (mj_hw w c hi hl) else if (0 : Int32) = 0 ∨ (0 : Int32) = 1 then some (some (Value.int (0 : Int32)), (mj_hw w c hi hl)) else none := by
  rw [mj_den_eq, f66_47]
  exact zt_if_ne rfl rfl (zt_iconst rfl (zt_ireturn1))
set_option maxRecDepth 100000 in
theorem f66_52 : mj_find (mj_P 66).2.2.2.2 52 = [(.aload_n 0, 1, 0, []), (.getfield 31, 3, 0, [6, 4, 3, 492]), (.iconst 0, 1, 0, []), (.iload_n 1, 1, 0, []), (.iload_n 2, 1, 0, []), (.invokevirtual 184, 3, 0, [0, 24, 3, 3, 0, 1028, 1029, 1030, 147, 1031])] := rfl
set_option maxRecDepth 100000 in
theorem q66_52 (E : mj_E) (d w c : Nat) (hi : Nat → Nat → Int32) (hl : Nat → Nat → Int64) (v1 : Int32) (v2 : Int32) : mj_den mj_P E d 66 52 [Value.ref 159, Value.int v1, Value.int v2] [] (mj_hw w c hi hl) = mj_bv (mj_dc mj_P E d 24 [Value.ref 169, Value.int (0 : Int32), Value.int v1, Value.int v2] (mj_hw w c hi hl)) (fun h1 => mj_den mj_P E d 66 62 [Value.ref 159, Value.int v1, Value.int v2] [] h1) := by
  rw [mj_den_eq, f66_52]
  exact zt_aload_n rfl rfl (zt_getr (mjkd159 _ _ _ _) (mjhr159_4 w c) rfl (zt_iconst rfl (zt_iload_n rfl rfl (zt_iload_n rfl rfl (zt_call0_0 rfl (mjkd169 _ _ _ _) (Nat.le_of_ble_eq_true rfl) rfl rfl)))))
set_option maxRecDepth 100000 in
theorem f66_62 : mj_find (mj_P 66).2.2.2.2 62 = [(.iconst 1, 1, 1, []), (.ireturn, 1, 0, [1])] := rfl
set_option maxRecDepth 100000 in
theorem q66_62 (E : mj_E) (d w c : Nat) (hi : Nat → Nat → Int32) (hl : Nat → Nat → Int64) (v1 : Int32) (v2 : Int32) : mj_den mj_P E d 66 62 [Value.ref 159, Value.int v1, Value.int v2] [] (mj_hw w c hi hl) = if (1 : Int32) = 0 ∨ (1 : Int32) = 1 then some (some (Value.int (1 : Int32)), (mj_hw w c hi hl)) else none := by
  rw [mj_den_eq, f66_62]
  exact zt_iconst rfl (zt_ireturn1)
set_option maxRecDepth 100000 in
theorem f67_0 : mj_find (mj_P 67).2.2.2.2 0 = [(.aload_n 0, 1, 0, []), (.invokevirtual 91, 3, 0, [0, 55, 6, 0, 0, 976, 978, 10, 150, 979])] := rfl
set_option maxRecDepth 100000 in
theorem q67_0 (E : mj_E) (d w c : Nat) (hi : Nat → Nat → Int32) (hl : Nat → Nat → Int64) : mj_den mj_P E d 67 0 [Value.ref 159, Value.float 0, Value.float 0] [] (mj_hw w c hi hl) = mj_bv (mj_dc mj_P E d 55 [Value.ref 159] (mj_hw w c hi hl)) (fun h1 => mj_den mj_P E d 67 4 [Value.ref 159, Value.float 0, Value.float 0] [] h1) := by
  rw [mj_den_eq, f67_0]
  exact zt_aload_n rfl rfl (zt_call0_0 rfl (mjkd159 _ _ _ _) (Nat.le_of_ble_eq_true rfl) rfl rfl)
set_option maxRecDepth 100000 in
theorem f67_4 : mj_find (mj_P 67).2.2.2.2 4 = [(.aload_n 0, 1, 0, []), (.getfield 60, 3, 0, [6, 12, 0, 501]), (.istore_n 1, 1, 0, []), (.aload_n 0, 1, 0, []), (.iconst 0, 1, 0, []), (.aload_n 0, 1, 0, []), (.getfield 45, 3, 0, [6, 7, 0, 496]), (.iconst 1, 1, 1, []), (.isub, 1, 0, []), (.invokevirtual 181, 3, 0, [0, 60, 6, 2, 1, 1024, 1026, 21, 150, 1027])] := rfl
set_option maxRecDepth 100000 in
theorem q67_4 (E : mj_E) (d w c : Nat) (hi : Nat → Nat → Int32) (hl : Nat → Nat → Int64) : mj_den mj_P E d 67 4 [Value.ref 159, Value.float 0, Value.float 0] [] (mj_hw w c hi hl) = mj_bi (mj_dc mj_P E d 60 [Value.ref 159, Value.int (0 : Int32), Value.int ((hi 159 7) - (1 : Int32))] (mj_hw w c hi hl)) (fun x1 h1 => mj_den mj_P E d 67 20 [Value.ref 159, Value.int (hi 159 12), Value.float 0] [Value.int x1] h1) := by
  rw [mj_den_eq, f67_4]
  exact zt_aload_n rfl rfl (zt_geti (mjkd159 _ _ _ _) rfl rfl (zt_istore_n (Nat.le_of_ble_eq_true rfl) rfl rfl (zt_aload_n rfl rfl (zt_iconst rfl (zt_aload_n rfl rfl (zt_geti (mjkd159 _ _ _ _) rfl rfl (zt_iconst rfl (zt_isub rfl (zt_call0_1 rfl (mjkd159 _ _ _ _) (Nat.le_of_ble_eq_true rfl) rfl rfl)))))))))
set_option maxRecDepth 100000 in
theorem f67_20 : mj_find (mj_P 67).2.2.2.2 20 = [(.ifCond .ne 5, 3, 0, [25]), (.iconst 0, 1, 0, []), (.ireturn, 1, 0, [1])] := rfl
set_option maxRecDepth 100000 in
theorem q67_20 (E : mj_E) (d w c : Nat) (hi : Nat → Nat → Int32) (hl : Nat → Nat → Int64) (v1 : Int32) (s0 : Int32) : mj_den mj_P E d 67 20 [Value.ref 159, Value.int v1, Value.float 0] [Value.int s0] (mj_hw w c hi hl) = if ¬ s0 = 0 then mj_den mj_P E d 67 25 [Value.ref 159, Value.int v1, Value.float 0] [] (mj_hw w c hi hl) else if (0 : Int32) = 0 ∨ (0 : Int32) = 1 then some (some (Value.int (0 : Int32)), (mj_hw w c hi hl)) else none := by
  rw [mj_den_eq, f67_20]
  exact zt_if_ne rfl rfl (zt_iconst rfl (zt_ireturn1))
set_option maxRecDepth 100000 in
theorem f67_25 : mj_find (mj_P 67).2.2.2.2 25 = [(.aload_n 0, 1, 0, []), (.iconst 1, 1, 1, []), (.invokevirtual 161, 3, 0, [0, 57, 6, 1, 1, 1004, 1006, 16, 150, 1007])] := rfl
set_option maxRecDepth 100000 in
theorem q67_25 (E : mj_E) (d w c : Nat) (hi : Nat → Nat → Int32) (hl : Nat → Nat → Int64) (v1 : Int32) : mj_den mj_P E d 67 25 [Value.ref 159, Value.int v1, Value.float 0] [] (mj_hw w c hi hl) = mj_bi (mj_dc mj_P E d 57 [Value.ref 159, Value.int (1 : Int32)] (mj_hw w c hi hl)) (fun x1 h1 => mj_den mj_P E d 67 30 [Value.ref 159, Value.int v1, Value.float 0] [Value.int x1] h1) := by
  rw [mj_den_eq, f67_25]
  exact zt_aload_n rfl rfl (zt_iconst rfl (zt_call0_1 rfl (mjkd159 _ _ _ _) (Nat.le_of_ble_eq_true rfl) rfl rfl))
set_option maxRecDepth 100000 in
theorem f67_30 : mj_find (mj_P 67).2.2.2.2 30 = [(.ifCond .ne 9, 3, 0, [39]), (.aload_n 0, 1, 0, []), (.iconst 1, 1, 1, []), (.invokevirtual 94, 3, 0, [0, 58, 6, 1, 1, 980, 982, 11, 150, 983])] := rfl
set_option maxRecDepth 100000 in
theorem q67_30 (E : mj_E) (d w c : Nat) (hi : Nat → Nat → Int32) (hl : Nat → Nat → Int64) (v1 : Int32) (s0 : Int32) : mj_den mj_P E d 67 30 [Value.ref 159, Value.int v1, Value.float 0] [Value.int s0] (mj_hw w c hi hl) = if ¬ s0 = 0 then mj_den mj_P E d 67 39 [Value.ref 159, Value.int v1, Value.float 0] [] (mj_hw w c hi hl) else mj_bi (mj_dc mj_P E d 58 [Value.ref 159, Value.int (1 : Int32)] (mj_hw w c hi hl)) (fun x1 h1 => mj_den mj_P E d 67 38 [Value.ref 159, Value.int v1, Value.float 0] [Value.int x1] h1) := by
  rw [mj_den_eq, f67_30]
  exact zt_if_ne rfl rfl (zt_aload_n rfl rfl (zt_iconst rfl (zt_call0_1 rfl (mjkd159 _ _ _ _) (Nat.le_of_ble_eq_true rfl) rfl rfl)))
set_option maxRecDepth 100000 in
theorem f67_38 : mj_find (mj_P 67).2.2.2.2 38 = [(.ireturn, 1, 0, [1])] := rfl
set_option maxRecDepth 100000 in
theorem q67_38 (E : mj_E) (d w c : Nat) (hi : Nat → Nat → Int32) (hl : Nat → Nat → Int64) (v1 : Int32) (s0 : Int32) : mj_den mj_P E d 67 38 [Value.ref 159, Value.int v1, Value.float 0] [Value.int s0] (mj_hw w c hi hl) = if s0 = 0 ∨ s0 = 1 then some (some (Value.int s0), (mj_hw w c hi hl)) else none := by
  rw [mj_den_eq, f67_38]
  exact zt_ireturn1
set_option maxRecDepth 100000 in
theorem f67_39 : mj_find (mj_P 67).2.2.2.2 39 = [(.aload_n 0, 1, 0, []), (.invokevirtual 91, 3, 0, [0, 55, 6, 0, 0, 976, 978, 10, 150, 979])] := rfl
set_option maxRecDepth 100000 in
theorem q67_39 (E : mj_E) (d w c : Nat) (hi : Nat → Nat → Int32) (hl : Nat → Nat → Int64) (v1 : Int32) : mj_den mj_P E d 67 39 [Value.ref 159, Value.int v1, Value.float 0] [] (mj_hw w c hi hl) = mj_bv (mj_dc mj_P E d 55 [Value.ref 159] (mj_hw w c hi hl)) (fun h1 => mj_den mj_P E d 67 43 [Value.ref 159, Value.int v1, Value.float 0] [] h1) := by
  rw [mj_den_eq, f67_39]
  exact zt_aload_n rfl rfl (zt_call0_0 rfl (mjkd159 _ _ _ _) (Nat.le_of_ble_eq_true rfl) rfl rfl)
set_option maxRecDepth 100000 in
theorem f67_43 : mj_find (mj_P 67).2.2.2.2 43 = [(.aload_n 0, 1, 0, []), (.getfield 60, 3, 0, [6, 12, 0, 501]), (.istore_n 2, 1, 0, []), (.aload_n 0, 1, 0, []), (.getfield 57, 3, 0, [6, 11, 0, 500]), (.iconst 1, 1, 1, []), (.if_icmp .ne 14, 3, 0, [67]), (.iload_n 2, 1, 0, []), (.iload_n 1, 1, 0, []), (.if_icmp .ne 9, 3, 0, [67]), (.aload_n 0, 1, 0, []), (.iconst 2, 1, 2, []), (.invokevirtual 94, 3, 0, [0, 58, 6, 1, 1, 980, 982, 11, 150, 983])] := rfl
set_option maxRecDepth 100000 in
theorem q67_43 (E : mj_E) (d w c : Nat) (hi : Nat → Nat → Int32) (hl : Nat → Nat → Int64) (v1 : Int32) : mj_den mj_P E d 67 43 [Value.ref 159, Value.int v1, Value.float 0] [] (mj_hw w c hi hl) = if ¬ (hi 159 11) = (1 : Int32) then mj_den mj_P E d 67 67 [Value.ref 159, Value.int v1, Value.int (hi 159 12)] [] (mj_hw w c hi hl) else if ¬ (hi 159 12) = v1 then mj_den mj_P E d 67 67 [Value.ref 159, Value.int v1, Value.int (hi 159 12)] [] (mj_hw w c hi hl) else mj_bi (mj_dc mj_P E d 58 [Value.ref 159, Value.int (2 : Int32)] (mj_hw w c hi hl)) (fun x1 h1 => mj_den mj_P E d 67 66 [Value.ref 159, Value.int v1, Value.int (hi 159 12)] [Value.int x1] h1) := by
  rw [mj_den_eq, f67_43]
  exact zt_aload_n rfl rfl (zt_geti (mjkd159 _ _ _ _) rfl rfl (zt_istore_n (Nat.le_of_ble_eq_true rfl) rfl rfl (zt_aload_n rfl rfl (zt_geti (mjkd159 _ _ _ _) rfl rfl (zt_iconst rfl (zt_icmp_ne rfl rfl (zt_iload_n rfl rfl (zt_iload_n rfl rfl (zt_icmp_ne rfl rfl (zt_aload_n rfl rfl (zt_iconst rfl (zt_call0_1 rfl (mjkd159 _ _ _ _) (Nat.le_of_ble_eq_true rfl) rfl rfl))))))))))))
set_option maxRecDepth 100000 in
theorem f67_66 : mj_find (mj_P 67).2.2.2.2 66 = [(.ireturn, 1, 0, [1])] := rfl
set_option maxRecDepth 100000 in
theorem q67_66 (E : mj_E) (d w c : Nat) (hi : Nat → Nat → Int32) (hl : Nat → Nat → Int64) (v1 : Int32) (v2 : Int32) (s0 : Int32) : mj_den mj_P E d 67 66 [Value.ref 159, Value.int v1, Value.int v2] [Value.int s0] (mj_hw w c hi hl) = if s0 = 0 ∨ s0 = 1 then some (some (Value.int s0), (mj_hw w c hi hl)) else none := by
  rw [mj_den_eq, f67_66]
  exact zt_ireturn1
set_option maxRecDepth 100000 in
theorem f67_67 : mj_find (mj_P 67).2.2.2.2 67 = [(.aload_n 0, 1, 0, []), (.iconst 0, 1, 0, []), (.aload_n 0, 1, 0, []), (.getfield 45, 3, 0, [6, 7, 0, 496]), (.iconst 1, 1, 1, []), (.isub, 1, 0, []), (.invokevirtual 181, 3, 0, [0, 60, 6, 2, 1, 1024, 1026, 21, 150, 1027])] := rfl
set_option maxRecDepth 100000 in
theorem q67_67 (E : mj_E) (d w c : Nat) (hi : Nat → Nat → Int32) (hl : Nat → Nat → Int64) (v1 : Int32) (v2 : Int32) : mj_den mj_P E d 67 67 [Value.ref 159, Value.int v1, Value.int v2] [] (mj_hw w c hi hl) = mj_bi (mj_dc mj_P E d 60 [Value.ref 159, Value.int (0 : Int32), Value.int ((hi 159 7) - (1 : Int32))] (mj_hw w c hi hl)) (fun x1 h1 => mj_den mj_P E d 67 78 [Value.ref 159, Value.int v1, Value.int v2] [Value.int x1] h1) := by
  rw [mj_den_eq, f67_67]
  exact zt_aload_n rfl rfl (zt_iconst rfl (zt_aload_n rfl rfl (zt_geti (mjkd159 _ _ _ _) rfl rfl (zt_iconst rfl (zt_isub rfl (zt_call0_1 rfl (mjkd159 _ _ _ _) (Nat.le_of_ble_eq_true rfl) rfl rfl))))))
set_option maxRecDepth 100000 in
theorem f67_78 : mj_find (mj_P 67).2.2.2.2 78 = [(.ifCond .ne 5, 3, 0, [83]), (.iconst 0, 1, 0, []), (.ireturn, 1, 0, [1])] := rfl
set_option maxRecDepth 100000 in
theorem q67_78 (E : mj_E) (d w c : Nat) (hi : Nat → Nat → Int32) (hl : Nat → Nat → Int64) (v1 : Int32) (v2 : Int32) (s0 : Int32) : mj_den mj_P E d 67 78 [Value.ref 159, Value.int v1, Value.int v2] [Value.int s0] (mj_hw w c hi hl) = if ¬ s0 = 0 then mj_den mj_P E d 67 83 [Value.ref 159, Value.int v1, Value.int v2] [] (mj_hw w c hi hl) else if (0 : Int32) = 0 ∨ (0 : Int32) = 1 then some (some (Value.int (0 : Int32)), (mj_hw w c hi hl)) else none := by
  rw [mj_den_eq, f67_78]
  exact zt_if_ne rfl rfl (zt_iconst rfl (zt_ireturn1))
set_option maxRecDepth 100000 in
theorem f67_83 : mj_find (mj_P 67).2.2.2.2 83 = [(.aload_n 0, 1, 0, []), (.getfield 31, 3, 0, [6, 4, 3, 492]), (.iconst 0, 1, 0, []), (.iload_n 1, 1, 0, []), (.iload_n 2, 1, 0, []), (.invokevirtual 184, 3, 0, [0, 24, 3, 3, 0, 1028, 1029, 1030, 147, 1031])] := rfl
set_option maxRecDepth 100000 in
theorem q67_83 (E : mj_E) (d w c : Nat) (hi : Nat → Nat → Int32) (hl : Nat → Nat → Int64) (v1 : Int32) (v2 : Int32) : mj_den mj_P E d 67 83 [Value.ref 159, Value.int v1, Value.int v2] [] (mj_hw w c hi hl) = mj_bv (mj_dc mj_P E d 24 [Value.ref 169, Value.int (0 : Int32), Value.int v1, Value.int v2] (mj_hw w c hi hl)) (fun h1 => mj_den mj_P E d 67 93 [Value.ref 159, Value.int v1, Value.int v2] [] h1) := by
  rw [mj_den_eq, f67_83]
  exact zt_aload_n rfl rfl (zt_getr (mjkd159 _ _ _ _) (mjhr159_4 w c) rfl (zt_iconst rfl (zt_iload_n rfl rfl (zt_iload_n rfl rfl (zt_call0_0 rfl (mjkd169 _ _ _ _) (Nat.le_of_ble_eq_true rfl) rfl rfl)))))
set_option maxRecDepth 100000 in
theorem f67_93 : mj_find (mj_P 67).2.2.2.2 93 = [(.iconst 1, 1, 1, []), (.ireturn, 1, 0, [1])] := rfl
set_option maxRecDepth 100000 in
theorem q67_93 (E : mj_E) (d w c : Nat) (hi : Nat → Nat → Int32) (hl : Nat → Nat → Int64) (v1 : Int32) (v2 : Int32) : mj_den mj_P E d 67 93 [Value.ref 159, Value.int v1, Value.int v2] [] (mj_hw w c hi hl) = if (1 : Int32) = 0 ∨ (1 : Int32) = 1 then some (some (Value.int (1 : Int32)), (mj_hw w c hi hl)) else none := by
  rw [mj_den_eq, f67_93]
  exact zt_iconst rfl (zt_ireturn1)
set_option maxRecDepth 100000 in
theorem f68_0 : mj_find (mj_P 68).2.2.2.2 0 = [(.aload_n 0, 1, 0, []), (.getfield 60, 3, 0, [6, 12, 0, 501]), (.istore_n 1, 1, 0, []), (.aload_n 0, 1, 0, []), (.invokevirtual 91, 3, 0, [0, 55, 6, 0, 0, 976, 978, 10, 150, 979])] := rfl
set_option maxRecDepth 100000 in
theorem q68_0 (E : mj_E) (d w c : Nat) (hi : Nat → Nat → Int32) (hl : Nat → Nat → Int64) : mj_den mj_P E d 68 0 [Value.ref 159, Value.float 0, Value.float 0, Value.float 0] [] (mj_hw w c hi hl) = mj_bv (mj_dc mj_P E d 55 [Value.ref 159] (mj_hw w c hi hl)) (fun h1 => mj_den mj_P E d 68 9 [Value.ref 159, Value.int (hi 159 12), Value.float 0, Value.float 0] [] h1) := by
  rw [mj_den_eq, f68_0]
  exact zt_aload_n rfl rfl (zt_geti (mjkd159 _ _ _ _) rfl rfl (zt_istore_n (Nat.le_of_ble_eq_true rfl) rfl rfl (zt_aload_n rfl rfl (zt_call0_0 rfl (mjkd159 _ _ _ _) (Nat.le_of_ble_eq_true rfl) rfl rfl))))
set_option maxRecDepth 100000 in
theorem f68_9 : mj_find (mj_P 68).2.2.2.2 9 = [(.aload_n 0, 1, 0, []), (.getfield 60, 3, 0, [6, 12, 0, 501]), (.istore_n 2, 1, 0, []), (.aload_n 0, 1, 0, []), (.iconst 0, 1, 0, []), (.iload_n 1, 1, 0, []), (.ifCond .ne 12, 3, 0, [29]), (.aload_n 0, 1, 0, []), (.getfield 48, 3, 0, [6, 8, 0, 497]), (.iconst 1, 1, 1, []), (.isub, 1, 0, []), (.goto 9, 3, 0, [35])] := rfl
set_option maxRecDepth 100000 in
theorem q68_9 (E : mj_E) (d w c : Nat) (hi : Nat → Nat → Int32) (hl : Nat → Nat → Int64) (v1 : Int32) : mj_den mj_P E d 68 9 [Value.ref 159, Value.int v1, Value.float 0, Value.float 0] [] (mj_hw w c hi hl) = if ¬ v1 = 0 then mj_den mj_P E d 68 29 [Value.ref 159, Value.int v1, Value.int (hi 159 12), Value.float 0] [Value.int (0 : Int32), Value.ref 159] (mj_hw w c hi hl) else mj_den mj_P E d 68 35 [Value.ref 159, Value.int v1, Value.int (hi 159 12), Value.float 0] [Value.int ((hi 159 8) - (1 : Int32)), Value.int (0 : Int32), Value.ref 159] (mj_hw w c hi hl) := by
  rw [mj_den_eq, f68_9]
  exact zt_aload_n rfl rfl (zt_geti (mjkd159 _ _ _ _) rfl rfl (zt_istore_n (Nat.le_of_ble_eq_true rfl) rfl rfl (zt_aload_n rfl rfl (zt_iconst rfl (zt_iload_n rfl rfl (zt_if_ne rfl rfl (zt_aload_n rfl rfl (zt_geti (mjkd159 _ _ _ _) rfl rfl (zt_iconst rfl (zt_isub rfl (zt_goto rfl)))))))))))
set_option maxRecDepth 100000 in
theorem f68_29 : mj_find (mj_P 68).2.2.2.2 29 = [(.aload_n 0, 1, 0, []), (.getfield 45, 3, 0, [6, 7, 0, 496]), (.iconst 1, 1, 1, []), (.isub, 1, 0, [])] := rfl
set_option maxRecDepth 100000 in
theorem q68_29 (E : mj_E) (d w c : Nat) (hi : Nat → Nat → Int32) (hl : Nat → Nat → Int64) (v1 : Int32) (v2 : Int32) (s0 : Int32) : mj_den mj_P E d 68 29 [Value.ref 159, Value.int v1, Value.int v2, Value.float 0] [Value.int s0, Value.ref 159] (mj_hw w c hi hl) = mj_den mj_P E d 68 35 [Value.ref 159, Value.int v1, Value.int v2, Value.float 0] [Value.int ((hi 159 7) - (1 : Int32)), Value.int s0, Value.ref 159] (mj_hw w c hi hl) := by
  rw [mj_den_eq, f68_29]
  exact zt_aload_n rfl rfl (zt_geti (mjkd159 _ _ _ _) rfl rfl (zt_iconst rfl (zt_isub rfl (zt_end rfl))))
set_option maxRecDepth 100000 in
theorem f68_35 : mj_find (mj_P 68).2.2.2.2 35 = [(.invokevirtual 181, 3, 0, [0, 60, 6, 2, 1, 1024, 1026, 21, 150, 1027])] := rfl
set_option maxRecDepth 100000 in
theorem q68_35 (E : mj_E) (d w c : Nat) (hi : Nat → Nat → Int32) (hl : Nat → Nat → Int64) (v1 : Int32) (v2 : Int32) (s0 : Int32) (s1 : Int32) : mj_den mj_P E d 68 35 [Value.ref 159, Value.int v1, Value.int v2, Value.float 0] [Value.int s0, Value.int s1, Value.ref 159] (mj_hw w c hi hl) = mj_bi (mj_dc mj_P E d 60 [Value.ref 159, Value.int s1, Value.int s0] (mj_hw w c hi hl)) (fun x1 h1 => mj_den mj_P E d 68 38 [Value.ref 159, Value.int v1, Value.int v2, Value.float 0] [Value.int x1] h1) := by
  rw [mj_den_eq, f68_35]
  exact zt_call0_1 rfl (mjkd159 _ _ _ _) (Nat.le_of_ble_eq_true rfl) rfl rfl
set_option maxRecDepth 100000 in
theorem f68_38 : mj_find (mj_P 68).2.2.2.2 38 = [(.ifCond .ne 5, 3, 0, [43]), (.iconst 0, 1, 0, []), (.ireturn, 1, 0, [1])] := rfl
set_option maxRecDepth 100000 in
theorem q68_38 (E : mj_E) (d w c : Nat) (hi : Nat → Nat → Int32) (hl : Nat → Nat → Int64) (v1 : Int32) (v2 : Int32) (s0 : Int32) : mj_den mj_P E d 68 38 [Value.ref 159, Value.int v1, Value.int v2, Value.float 0] [Value.int s0] (mj_hw w c hi hl) = if ¬ s0 = 0 then mj_den mj_P E d 68 43 [Value.ref 159, Value.int v1, Value.int v2, Value.float 0] [] (mj_hw w c hi hl) else if (0 : Int32) = 0 ∨ (0 : Int32) = 1 then some (some (Value.int (0 : Int32)), (mj_hw w c hi hl)) else none := by
  rw [mj_den_eq, f68_38]
  exact zt_if_ne rfl rfl (zt_iconst rfl (zt_ireturn1))
set_option maxRecDepth 100000 in
theorem f68_43 : mj_find (mj_P 68).2.2.2.2 43 = [(.iconst (-1), 1, (-1), []), (.istore_n 3, 1, 0, []), (.iload_n 1, 1, 0, []), (.ifCond .ne 28, 3, 0, [74]), (.aload_n 0, 1, 0, []), (.iconst 3, 1, 3, []), (.invokevirtual 161, 3, 0, [0, 57, 6, 1, 1, 1004, 1006, 16, 150, 1007])] := rfl
set_option maxRecDepth 100000 in
theorem q68_43 (E : mj_E) (d w c : Nat) (hi : Nat → Nat → Int32) (hl : Nat → Nat → Int64) (v1 : Int32) (v2 : Int32) : mj_den mj_P E d 68 43 [Value.ref 159, Value.int v1, Value.int v2, Value.float 0] [] (mj_hw w c hi hl) = if ¬ v1 = 0 then mj_den mj_P E d 68 74 [Value.ref 159, Value.int v1, Value.int v2, Value.int (-1 : Int32)] [] (mj_hw w c hi hl) else mj_bi (mj_dc mj_P E d 57 [Value.ref 159, Value.int (3 : Int32)] (mj_hw w c hi hl)) (fun x1 h1 => mj_den mj_P E d 68 54 [Value.ref 159, Value.int v1, Value.int v2, Value.int (-1 : Int32)] [Value.int x1] h1) := by
  rw [mj_den_eq, f68_43]
  exact zt_iconst rfl (zt_istore_n (Nat.le_of_ble_eq_true rfl) rfl rfl (zt_iload_n rfl rfl (zt_if_ne rfl rfl (zt_aload_n rfl rfl (zt_iconst rfl (zt_call0_1 rfl (mjkd159 _ _ _ _) (Nat.le_of_ble_eq_true rfl) rfl rfl))))))
set_option maxRecDepth 100000 in
theorem f68_54 : mj_find (mj_P 68).2.2.2.2 54 = [(.ifCond .ne 11, 3, 0, [65]), (.aload_n 0, 1, 0, []), (.iconst 4, 1, 4, []), (.invokevirtual 161, 3, 0, [0, 57, 6, 1, 1, 1004, 1006, 16, 150, 1007])] := rfl
set_option maxRecDepth 100000 in
theorem q68_54 (E : mj_E) (d w c : Nat) (hi : Nat → Nat → Int32) (hl : Nat → Nat → Int64) (v1 : Int32) (v2 : Int32) (v3 : Int32) (s0 : Int32) : mj_den mj_P E d 68 54 [Value.ref 159, Value.int v1, Value.int v2, Value.int v3] [Value.int s0] (mj_hw w c hi hl) = if ¬ s0 = 0 then mj_den mj_P E d 68 65 [Value.ref 159, Value.int v1, Value.int v2, Value.int v3] [] (mj_hw w c hi hl) else mj_bi (mj_dc mj_P E d 57 [Value.ref 159, Value.int (4 : Int32)] (mj_hw w c hi hl)) (fun x1 h1 => mj_den mj_P E d 68 62 [Value.ref 159, Value.int v1, Value.int v2, Value.int v3] [Value.int x1] h1) := by
  rw [mj_den_eq, f68_54]
  exact zt_if_ne rfl rfl (zt_aload_n rfl rfl (zt_iconst rfl (zt_call0_1 rfl (mjkd159 _ _ _ _) (Nat.le_of_ble_eq_true rfl) rfl rfl)))
set_option maxRecDepth 100000 in
theorem f68_62 : mj_find (mj_P 68).2.2.2.2 62 = [(.ifCond .eq 12, 3, 0, [74])] := rfl
set_option maxRecDepth 100000 in
theorem q68_62 (E : mj_E) (d w c : Nat) (hi : Nat → Nat → Int32) (hl : Nat → Nat → Int64) (v1 : Int32) (v2 : Int32) (v3 : Int32) (s0 : Int32) : mj_den mj_P E d 68 62 [Value.ref 159, Value.int v1, Value.int v2, Value.int v3] [Value.int s0] (mj_hw w c hi hl) = if s0 = 0 then mj_den mj_P E d 68 74 [Value.ref 159, Value.int v1, Value.int v2, Value.int v3] [] (mj_hw w c hi hl) else mj_den mj_P E d 68 65 [Value.ref 159, Value.int v1, Value.int v2, Value.int v3] [] (mj_hw w c hi hl) := by
  rw [mj_den_eq, f68_62]
  exact zt_if_eq rfl rfl (zt_end rfl)
set_option maxRecDepth 100000 in
theorem f68_65 : mj_find (mj_P 68).2.2.2.2 65 = [(.aload_n 0, 1, 0, []), (.getfield 60, 3, 0, [6, 12, 0, 501]), (.istore_n 3, 1, 0, []), (.aload_n 0, 1, 0, []), (.invokevirtual 91, 3, 0, [0, 55, 6, 0, 0, 976, 978, 10, 150, 979])] := rfl
set_option maxRecDepth 100000 in
theorem q68_65 (E : mj_E) (d w c : Nat) (hi : Nat → Nat → Int32) (hl : Nat → Nat → Int64) (v1 : Int32) (v2 : Int32) (v3 : Int32) : mj_den mj_P E d 68 65 [Value.ref 159, Value.int v1, Value.int v2, Value.int v3] [] (mj_hw w c hi hl) = mj_bv (mj_dc mj_P E d 55 [Value.ref 159] (mj_hw w c hi hl)) (fun h1 => mj_den mj_P E d 68 74 [Value.ref 159, Value.int v1, Value.int v2, Value.int (hi 159 12)] [] h1) := by
  rw [mj_den_eq, f68_65]
  exact zt_aload_n rfl rfl (zt_geti (mjkd159 _ _ _ _) rfl rfl (zt_istore_n (Nat.le_of_ble_eq_true rfl) rfl rfl (zt_aload_n rfl rfl (zt_call0_0 rfl (mjkd159 _ _ _ _) (Nat.le_of_ble_eq_true rfl) rfl rfl))))
set_option maxRecDepth 100000 in
theorem f68_74 : mj_find (mj_P 68).2.2.2.2 74 = [(.aload_n 0, 1, 0, []), (.getfield 31, 3, 0, [6, 4, 3, 492]), (.iload_n 1, 1, 0, []), (.iload_n 2, 1, 0, []), (.iload_n 3, 1, 0, []), (.invokevirtual 184, 3, 0, [0, 24, 3, 3, 0, 1028, 1029, 1030, 147, 1031])] := rfl
set_option maxRecDepth 100000 in
theorem q68_74 (E : mj_E) (d w c : Nat) (hi : Nat → Nat → Int32) (hl : Nat → Nat → Int64) (v1 : Int32) (v2 : Int32) (v3 : Int32) : mj_den mj_P E d 68 74 [Value.ref 159, Value.int v1, Value.int v2, Value.int v3] [] (mj_hw w c hi hl) = mj_bv (mj_dc mj_P E d 24 [Value.ref 169, Value.int v1, Value.int v2, Value.int v3] (mj_hw w c hi hl)) (fun h1 => mj_den mj_P E d 68 84 [Value.ref 159, Value.int v1, Value.int v2, Value.int v3] [] h1) := by
  rw [mj_den_eq, f68_74]
  exact zt_aload_n rfl rfl (zt_getr (mjkd159 _ _ _ _) (mjhr159_4 w c) rfl (zt_iload_n rfl rfl (zt_iload_n rfl rfl (zt_iload_n rfl rfl (zt_call0_0 rfl (mjkd169 _ _ _ _) (Nat.le_of_ble_eq_true rfl) rfl rfl)))))
set_option maxRecDepth 100000 in
theorem f68_84 : mj_find (mj_P 68).2.2.2.2 84 = [(.iconst 1, 1, 1, []), (.ireturn, 1, 0, [1])] := rfl
set_option maxRecDepth 100000 in
theorem q68_84 (E : mj_E) (d w c : Nat) (hi : Nat → Nat → Int32) (hl : Nat → Nat → Int64) (v1 : Int32) (v2 : Int32) (v3 : Int32) : mj_den mj_P E d 68 84 [Value.ref 159, Value.int v1, Value.int v2, Value.int v3] [] (mj_hw w c hi hl) = if (1 : Int32) = 0 ∨ (1 : Int32) = 1 then some (some (Value.int (1 : Int32)), (mj_hw w c hi hl)) else none := by
  rw [mj_den_eq, f68_84]
  exact zt_iconst rfl (zt_ireturn1)
set_option maxRecDepth 100000 in
theorem f70_0 : mj_find (mj_P 70).2.2.2.2 0 = [(.iload_n 1, 1, 0, []), (.ifCond .lt 21, 3, 0, [22]), (.iload_n 1, 1, 0, []), (.aload_n 0, 1, 0, []), (.getfield 9, 3, 0, [7, 0, 0, 185]), (.if_icmp .ge 13, 3, 0, [22]), (.iload_n 1, 1, 0, []), (.bipush 10, 2, 10, []), (.if_icmp .ge 7, 3, 0, [22]), (.iconst 1, 1, 1, []), (.goto 4, 3, 0, [23])] := rfl
set_option maxRecDepth 100000 in
theorem q70_0 (E : mj_E) (d w c : Nat) (hi : Nat → Nat → Int32) (hl : Nat → Nat → Int64) (v1 : Int32) : mj_den mj_P E d 70 0 [Value.ref 2, Value.int v1] [] (mj_hw w c hi hl) = if v1 < 0 then mj_den mj_P E d 70 22 [Value.ref 2, Value.int v1] [] (mj_hw w c hi hl) else if (hi 2 0) ≤ v1 then mj_den mj_P E d 70 22 [Value.ref 2, Value.int v1] [] (mj_hw w c hi hl) else if (10 : Int32) ≤ v1 then mj_den mj_P E d 70 22 [Value.ref 2, Value.int v1] [] (mj_hw w c hi hl) else mj_den mj_P E d 70 23 [Value.ref 2, Value.int v1] [Value.int (1 : Int32)] (mj_hw w c hi hl) := by
  rw [mj_den_eq, f70_0]
  exact zt_iload_n rfl rfl (zt_if_lt rfl rfl (zt_iload_n rfl rfl (zt_aload_n rfl rfl (zt_geti (mjkd2 _ _ _ _) rfl rfl (zt_icmp_ge rfl rfl (zt_iload_n rfl rfl (zt_bipush rfl (zt_icmp_ge rfl rfl (zt_iconst rfl (zt_goto rfl))))))))))
set_option maxRecDepth 100000 in
theorem q70_0_1 (E : mj_E) (d w c : Nat) (hi : Nat → Nat → Int32) (hl : Nat → Nat → Int64) (v1 : Int32) : mj_den mj_P E d 70 0 [Value.ref 177, Value.int v1] [] (mj_hw w c hi hl) = if v1 < 0 then mj_den mj_P E d 70 22 [Value.ref 177, Value.int v1] [] (mj_hw w c hi hl) else if (hi 177 0) ≤ v1 then mj_den mj_P E d 70 22 [Value.ref 177, Value.int v1] [] (mj_hw w c hi hl) else if (10 : Int32) ≤ v1 then mj_den mj_P E d 70 22 [Value.ref 177, Value.int v1] [] (mj_hw w c hi hl) else mj_den mj_P E d 70 23 [Value.ref 177, Value.int v1] [Value.int (1 : Int32)] (mj_hw w c hi hl) := by
  rw [mj_den_eq, f70_0]
  exact zt_iload_n rfl rfl (zt_if_lt rfl rfl (zt_iload_n rfl rfl (zt_aload_n rfl rfl (zt_geti (mjkd177 _ _ _ _) rfl rfl (zt_icmp_ge rfl rfl (zt_iload_n rfl rfl (zt_bipush rfl (zt_icmp_ge rfl rfl (zt_iconst rfl (zt_goto rfl))))))))))
set_option maxRecDepth 100000 in
theorem f70_22 : mj_find (mj_P 70).2.2.2.2 22 = [(.iconst 0, 1, 0, [])] := rfl
set_option maxRecDepth 100000 in
theorem q70_22 (E : mj_E) (d w c : Nat) (hi : Nat → Nat → Int32) (hl : Nat → Nat → Int64) (v1 : Int32) : mj_den mj_P E d 70 22 [Value.ref 2, Value.int v1] [] (mj_hw w c hi hl) = mj_den mj_P E d 70 23 [Value.ref 2, Value.int v1] [Value.int (0 : Int32)] (mj_hw w c hi hl) := by
  rw [mj_den_eq, f70_22]
  exact zt_iconst rfl (zt_end rfl)
set_option maxRecDepth 100000 in
theorem q70_22_1 (E : mj_E) (d w c : Nat) (hi : Nat → Nat → Int32) (hl : Nat → Nat → Int64) (v1 : Int32) : mj_den mj_P E d 70 22 [Value.ref 177, Value.int v1] [] (mj_hw w c hi hl) = mj_den mj_P E d 70 23 [Value.ref 177, Value.int v1] [Value.int (0 : Int32)] (mj_hw w c hi hl) := by
  rw [mj_den_eq, f70_22]
  exact zt_iconst rfl (zt_end rfl)
set_option maxRecDepth 100000 in
theorem f70_23 : mj_find (mj_P 70).2.2.2.2 23 = [(.ireturn, 1, 0, [1])] := rfl
set_option maxRecDepth 100000 in
theorem q70_23 (E : mj_E) (d w c : Nat) (hi : Nat → Nat → Int32) (hl : Nat → Nat → Int64) (v1 : Int32) (s0 : Int32) : mj_den mj_P E d 70 23 [Value.ref 2, Value.int v1] [Value.int s0] (mj_hw w c hi hl) = if s0 = 0 ∨ s0 = 1 then some (some (Value.int s0), (mj_hw w c hi hl)) else none := by
  rw [mj_den_eq, f70_23]
  exact zt_ireturn1
set_option maxRecDepth 100000 in
theorem q70_23_1 (E : mj_E) (d w c : Nat) (hi : Nat → Nat → Int32) (hl : Nat → Nat → Int64) (v1 : Int32) (s0 : Int32) : mj_den mj_P E d 70 23 [Value.ref 177, Value.int v1] [Value.int s0] (mj_hw w c hi hl) = if s0 = 0 ∨ s0 = 1 then some (some (Value.int s0), (mj_hw w c hi hl)) else none := by
  rw [mj_den_eq, f70_23]
  exact zt_ireturn1
set_option maxRecDepth 100000 in
theorem f71_0 : mj_find (mj_P 71).2.2.2.2 0 = [(.iload_n 1, 1, 0, []), (.ifCond .lt 21, 3, 0, [22]), (.iload_n 1, 1, 0, []), (.aload_n 0, 1, 0, []), (.getfield 15, 3, 0, [7, 1, 0, 189]), (.if_icmp .ge 13, 3, 0, [22]), (.iload_n 1, 1, 0, []), (.bipush 12, 2, 12, []), (.if_icmp .ge 7, 3, 0, [22]), (.iconst 1, 1, 1, []), (.goto 4, 3, 0, [23])] := rfl
set_option maxRecDepth 100000 in
theorem q71_0 (E : mj_E) (d w c : Nat) (hi : Nat → Nat → Int32) (hl : Nat → Nat → Int64) (v1 : Int32) : mj_den mj_P E d 71 0 [Value.ref 2, Value.int v1] [] (mj_hw w c hi hl) = if v1 < 0 then mj_den mj_P E d 71 22 [Value.ref 2, Value.int v1] [] (mj_hw w c hi hl) else if (hi 2 1) ≤ v1 then mj_den mj_P E d 71 22 [Value.ref 2, Value.int v1] [] (mj_hw w c hi hl) else if (12 : Int32) ≤ v1 then mj_den mj_P E d 71 22 [Value.ref 2, Value.int v1] [] (mj_hw w c hi hl) else mj_den mj_P E d 71 23 [Value.ref 2, Value.int v1] [Value.int (1 : Int32)] (mj_hw w c hi hl) := by
  rw [mj_den_eq, f71_0]
  exact zt_iload_n rfl rfl (zt_if_lt rfl rfl (zt_iload_n rfl rfl (zt_aload_n rfl rfl (zt_geti (mjkd2 _ _ _ _) rfl rfl (zt_icmp_ge rfl rfl (zt_iload_n rfl rfl (zt_bipush rfl (zt_icmp_ge rfl rfl (zt_iconst rfl (zt_goto rfl))))))))))
set_option maxRecDepth 100000 in
theorem q71_0_1 (E : mj_E) (d w c : Nat) (hi : Nat → Nat → Int32) (hl : Nat → Nat → Int64) (v1 : Int32) : mj_den mj_P E d 71 0 [Value.ref 177, Value.int v1] [] (mj_hw w c hi hl) = if v1 < 0 then mj_den mj_P E d 71 22 [Value.ref 177, Value.int v1] [] (mj_hw w c hi hl) else if (hi 177 1) ≤ v1 then mj_den mj_P E d 71 22 [Value.ref 177, Value.int v1] [] (mj_hw w c hi hl) else if (12 : Int32) ≤ v1 then mj_den mj_P E d 71 22 [Value.ref 177, Value.int v1] [] (mj_hw w c hi hl) else mj_den mj_P E d 71 23 [Value.ref 177, Value.int v1] [Value.int (1 : Int32)] (mj_hw w c hi hl) := by
  rw [mj_den_eq, f71_0]
  exact zt_iload_n rfl rfl (zt_if_lt rfl rfl (zt_iload_n rfl rfl (zt_aload_n rfl rfl (zt_geti (mjkd177 _ _ _ _) rfl rfl (zt_icmp_ge rfl rfl (zt_iload_n rfl rfl (zt_bipush rfl (zt_icmp_ge rfl rfl (zt_iconst rfl (zt_goto rfl))))))))))
set_option maxRecDepth 100000 in
theorem f71_22 : mj_find (mj_P 71).2.2.2.2 22 = [(.iconst 0, 1, 0, [])] := rfl
set_option maxRecDepth 100000 in
theorem q71_22 (E : mj_E) (d w c : Nat) (hi : Nat → Nat → Int32) (hl : Nat → Nat → Int64) (v1 : Int32) : mj_den mj_P E d 71 22 [Value.ref 2, Value.int v1] [] (mj_hw w c hi hl) = mj_den mj_P E d 71 23 [Value.ref 2, Value.int v1] [Value.int (0 : Int32)] (mj_hw w c hi hl) := by
  rw [mj_den_eq, f71_22]
  exact zt_iconst rfl (zt_end rfl)
set_option maxRecDepth 100000 in
theorem q71_22_1 (E : mj_E) (d w c : Nat) (hi : Nat → Nat → Int32) (hl : Nat → Nat → Int64) (v1 : Int32) : mj_den mj_P E d 71 22 [Value.ref 177, Value.int v1] [] (mj_hw w c hi hl) = mj_den mj_P E d 71 23 [Value.ref 177, Value.int v1] [Value.int (0 : Int32)] (mj_hw w c hi hl) := by
  rw [mj_den_eq, f71_22]
  exact zt_iconst rfl (zt_end rfl)
set_option maxRecDepth 100000 in
theorem f71_23 : mj_find (mj_P 71).2.2.2.2 23 = [(.ireturn, 1, 0, [1])] := rfl
set_option maxRecDepth 100000 in
theorem q71_23 (E : mj_E) (d w c : Nat) (hi : Nat → Nat → Int32) (hl : Nat → Nat → Int64) (v1 : Int32) (s0 : Int32) : mj_den mj_P E d 71 23 [Value.ref 2, Value.int v1] [Value.int s0] (mj_hw w c hi hl) = if s0 = 0 ∨ s0 = 1 then some (some (Value.int s0), (mj_hw w c hi hl)) else none := by
  rw [mj_den_eq, f71_23]
  exact zt_ireturn1
set_option maxRecDepth 100000 in
theorem q71_23_1 (E : mj_E) (d w c : Nat) (hi : Nat → Nat → Int32) (hl : Nat → Nat → Int64) (v1 : Int32) (s0 : Int32) : mj_den mj_P E d 71 23 [Value.ref 177, Value.int v1] [Value.int s0] (mj_hw w c hi hl) = if s0 = 0 ∨ s0 = 1 then some (some (Value.int s0), (mj_hw w c hi hl)) else none := by
  rw [mj_den_eq, f71_23]
  exact zt_ireturn1
set_option maxRecDepth 100000 in
theorem f72_0 : mj_find (mj_P 72).2.2.2.2 0 = [(.aload_n 0, 1, 0, []), (.getfield 9, 3, 0, [7, 0, 0, 185]), (.istore 5, 2, 0, []), (.iload 5, 2, 0, []), (.ifCond .lt 10, 3, 0, [18]), (.iload 5, 2, 0, []), (.bipush 10, 2, 10, []), (.if_icmp .lt 5, 3, 0, [20])] := rfl
set_option maxRecDepth 100000 in
theorem q72_0 (E : mj_E) (d w c : Nat) (hi : Nat → Nat → Int32) (hl : Nat → Nat → Int64) (v1 : Int32) (v2 : Int32) (v3 : Int32) (v4 : Int32) : mj_den mj_P E d 72 0 [Value.ref 2, Value.int v1, Value.int v2, Value.int v3, Value.int v4, Value.float 0] [] (mj_hw w c hi hl) = if (hi 2 0) < 0 then mj_den mj_P E d 72 18 [Value.ref 2, Value.int v1, Value.int v2, Value.int v3, Value.int v4, Value.int (hi 2 0)] [] (mj_hw w c hi hl) else if (hi 2 0) < (10 : Int32) then mj_den mj_P E d 72 20 [Value.ref 2, Value.int v1, Value.int v2, Value.int v3, Value.int v4, Value.int (hi 2 0)] [] (mj_hw w c hi hl) else mj_den mj_P E d 72 18 [Value.ref 2, Value.int v1, Value.int v2, Value.int v3, Value.int v4, Value.int (hi 2 0)] [] (mj_hw w c hi hl) := by
  rw [mj_den_eq, f72_0]
  exact zt_aload_n rfl rfl (zt_geti (mjkd2 _ _ _ _) rfl rfl (zt_istore (Nat.le_of_ble_eq_true rfl) rfl rfl (zt_iload rfl rfl (zt_if_lt rfl rfl (zt_iload rfl rfl (zt_bipush rfl (zt_icmp_lt rfl rfl (zt_end rfl))))))))
set_option maxRecDepth 100000 in
theorem f72_18 : mj_find (mj_P 72).2.2.2.2 18 = [(.iconst (-1), 1, (-1), []), (.ireturn, 1, 0, [0])] := rfl
set_option maxRecDepth 100000 in
theorem q72_18 (E : mj_E) (d w c : Nat) (hi : Nat → Nat → Int32) (hl : Nat → Nat → Int64) (v1 : Int32) (v2 : Int32) (v3 : Int32) (v4 : Int32) (v5 : Int32) : mj_den mj_P E d 72 18 [Value.ref 2, Value.int v1, Value.int v2, Value.int v3, Value.int v4, Value.int v5] [] (mj_hw w c hi hl) = some (some (Value.int (-1 : Int32)), (mj_hw w c hi hl)) := by
  rw [mj_den_eq, f72_18]
  exact zt_iconst rfl (zt_ireturn0)
set_option maxRecDepth 100000 in
theorem f72_20 : mj_find (mj_P 72).2.2.2.2 20 = [(.aload_n 0, 1, 0, []), (.getfield 33, 3, 0, [7, 7, 3, 206]), (.iload 5, 2, 0, []), (.iload_n 1, 1, 0, []), (.iastore, 1, 0, []), (.aload_n 0, 1, 0, []), (.getfield 37, 3, 0, [7, 8, 3, 210]), (.iload 5, 2, 0, []), (.iload_n 2, 1, 0, []), (.iastore, 1, 0, []), (.aload_n 0, 1, 0, []), (.getfield 40, 3, 0, [7, 9, 3, 213]), (.iload 5, 2, 0, []), (.iload_n 3, 1, 0, []), (.iastore, 1, 0, []), (.aload_n 0, 1, 0, []), (.getfield 43, 3, 0, [7, 10, 3, 216]), (.iload 5, 2, 0, []), (.iload 4, 2, 0, []), (.iastore, 1, 0, []), (.aload_n 0, 1, 0, []), (.getfield 46, 3, 0, [7, 11, 3, 219]), (.iload 5, 2, 0, []), (.iconst 0, 1, 0, []), (.iastore, 1, 0, []), (.aload_n 0, 1, 0, []), (.getfield 49, 3, 0, [7, 12, 3, 221]), (.iload 5, 2, 0, []), (.iconst 0, 1, 0, []), (.iastore, 1, 0, []), (.aload_n 0, 1, 0, []), (.getfield 52, 3, 0, [7, 13, 3, 225]), (.iload 5, 2, 0, []), (.iconst 0, 1, 0, []), (.iastore, 1, 0, []), (.aload_n 0, 1, 0, []), (.dup, 1, 0, []), (.getfield 9, 3, 0, [7, 0, 0, 185]), (.iconst 1, 1, 1, []), (.iadd, 1, 0, []), (.putfield 9, 3, 0, [7, 0, 0, 185]), (.iload 5, 2, 0, []), (.ireturn, 1, 0, [0])] := rfl
set_option maxRecDepth 100000 in
theorem q72_20 (E : mj_E) (d w c : Nat) (hi : Nat → Nat → Int32) (hl : Nat → Nat → Int64) (v1 : Int32) (v2 : Int32) (v3 : Int32) (v4 : Int32) (v5 : Int32) : mj_den mj_P E d 72 20 [Value.ref 2, Value.int v1, Value.int v2, Value.int v3, Value.int v4, Value.int v5] [] (mj_hw w c hi hl) = if 0 ≤ v5 ∧ (v5).toNatClampNeg < 10 then if 0 ≤ v5 ∧ (v5).toNatClampNeg < 10 then if 0 ≤ v5 ∧ (v5).toNatClampNeg < 10 then if 0 ≤ v5 ∧ (v5).toNatClampNeg < 10 then if 0 ≤ v5 ∧ (v5).toNatClampNeg < 10 then if 0 ≤ v5 ∧ (v5).toNatClampNeg < 10 then if 0 ≤ v5 ∧ (v5).toNatClampNeg < 10 then some (some (Value.int v5), (mj_hw w c (mj_u (mj_u (mj_u (mj_u (mj_u (mj_u (mj_u (mj_u hi 3 ((v5).toNatClampNeg) v1) 4 ((v5).toNatClampNeg) v2) 5 ((v5).toNatClampNeg) v3) 6 ((v5).toNatClampNeg) v4) 7 ((v5).toNatClampNeg) (0 : Int32)) 8 ((v5).toNatClampNeg) (0 : Int32)) 9 ((v5).toNatClampNeg) (0 : Int32)) 2 0 ((hi 2 0) + (1 : Int32))) hl)) else none else none else none else none else none else none else none := by
  rw [mj_den_eq, f72_20]
  exact zt_aload_n rfl rfl (zt_getr (mjkd2 _ _ _ _) (mjhr2_7 w c) rfl (zt_iload rfl rfl (zt_iload_n rfl rfl (zt_iast (mjkd3 _ _ _ _) (mjln3 _ _ _ _) rfl rfl (zt_aload_n rfl rfl (zt_getr (mjkd2 _ _ _ _) (mjhr2_8 w c) rfl (zt_iload rfl rfl (zt_iload_n rfl rfl (zt_iast (mjkd4 _ _ _ _) (mjln4 _ _ _ _) rfl rfl (zt_aload_n rfl rfl (zt_getr (mjkd2 _ _ _ _) (mjhr2_9 w c) rfl (zt_iload rfl rfl (zt_iload_n rfl rfl (zt_iast (mjkd5 _ _ _ _) (mjln5 _ _ _ _) rfl rfl (zt_aload_n rfl rfl (zt_getr (mjkd2 _ _ _ _) (mjhr2_10 w c) rfl (zt_iload rfl rfl (zt_iload rfl rfl (zt_iast (mjkd6 _ _ _ _) (mjln6 _ _ _ _) rfl rfl (zt_aload_n rfl rfl (zt_getr (mjkd2 _ _ _ _) (mjhr2_11 w c) rfl (zt_iload rfl rfl (zt_iconst rfl (zt_iast (mjkd7 _ _ _ _) (mjln7 _ _ _ _) rfl rfl (zt_aload_n rfl rfl (zt_getr (mjkd2 _ _ _ _) (mjhr2_12 w c) rfl (zt_iload rfl rfl (zt_iconst rfl (zt_iast (mjkd8 _ _ _ _) (mjln8 _ _ _ _) rfl rfl (zt_aload_n rfl rfl (zt_getr (mjkd2 _ _ _ _) (mjhr2_13 w c) rfl (zt_iload rfl rfl (zt_iconst rfl (zt_iast (mjkd9 _ _ _ _) (mjln9 _ _ _ _) rfl rfl (zt_aload_n rfl rfl (zt_dupr rfl (zt_geti (mjkd2 _ _ _ _) rfl rfl (zt_iconst rfl (zt_iadd rfl (zt_puti (mjkd2 _ _ _ _) rfl rfl (zt_iload rfl rfl (zt_ireturn0))))))))))))))))))))))))))))))))))))))))))
set_option maxRecDepth 100000 in
theorem f73_0 : mj_find (mj_P 73).2.2.2.2 0 = [(.aload_n 0, 1, 0, []), (.getfield 15, 3, 0, [7, 1, 0, 189]), (.istore_n 3, 1, 0, []), (.iload_n 3, 1, 0, []), (.ifCond .lt 9, 3, 0, [15]), (.iload_n 3, 1, 0, []), (.bipush 12, 2, 12, []), (.if_icmp .lt 5, 3, 0, [17])] := rfl
set_option maxRecDepth 100000 in
theorem q73_0 (E : mj_E) (d w c : Nat) (hi : Nat → Nat → Int32) (hl : Nat → Nat → Int64) (v1 : Int32) (v2 : Int32) : mj_den mj_P E d 73 0 [Value.ref 2, Value.int v1, Value.int v2, Value.float 0] [] (mj_hw w c hi hl) = if (hi 2 1) < 0 then mj_den mj_P E d 73 15 [Value.ref 2, Value.int v1, Value.int v2, Value.int (hi 2 1)] [] (mj_hw w c hi hl) else if (hi 2 1) < (12 : Int32) then mj_den mj_P E d 73 17 [Value.ref 2, Value.int v1, Value.int v2, Value.int (hi 2 1)] [] (mj_hw w c hi hl) else mj_den mj_P E d 73 15 [Value.ref 2, Value.int v1, Value.int v2, Value.int (hi 2 1)] [] (mj_hw w c hi hl) := by
  rw [mj_den_eq, f73_0]
  exact zt_aload_n rfl rfl (zt_geti (mjkd2 _ _ _ _) rfl rfl (zt_istore_n (Nat.le_of_ble_eq_true rfl) rfl rfl (zt_iload_n rfl rfl (zt_if_lt rfl rfl (zt_iload_n rfl rfl (zt_bipush rfl (zt_icmp_lt rfl rfl (zt_end rfl))))))))
set_option maxRecDepth 100000 in
theorem f73_15 : mj_find (mj_P 73).2.2.2.2 15 = [(.iconst (-1), 1, (-1), []), (.ireturn, 1, 0, [0])] := rfl
set_option maxRecDepth 100000 in
theorem q73_15 (E : mj_E) (d w c : Nat) (hi : Nat → Nat → Int32) (hl : Nat → Nat → Int64) (v1 : Int32) (v2 : Int32) (v3 : Int32) : mj_den mj_P E d 73 15 [Value.ref 2, Value.int v1, Value.int v2, Value.int v3] [] (mj_hw w c hi hl) = some (some (Value.int (-1 : Int32)), (mj_hw w c hi hl)) := by
  rw [mj_den_eq, f73_15]
  exact zt_iconst rfl (zt_ireturn0)
set_option maxRecDepth 100000 in
theorem f73_17 : mj_find (mj_P 73).2.2.2.2 17 = [(.aload_n 0, 1, 0, []), (.getfield 55, 3, 0, [7, 14, 3, 229]), (.iload_n 3, 1, 0, []), (.iload_n 1, 1, 0, []), (.iastore, 1, 0, []), (.aload_n 0, 1, 0, []), (.getfield 58, 3, 0, [7, 15, 3, 232]), (.iload_n 3, 1, 0, []), (.iload_n 2, 1, 0, []), (.iastore, 1, 0, []), (.aload_n 0, 1, 0, []), (.getfield 61, 3, 0, [7, 16, 3, 236]), (.iload_n 3, 1, 0, []), (.iconst (-1), 1, (-1), []), (.iastore, 1, 0, []), (.aload_n 0, 1, 0, []), (.dup, 1, 0, []), (.getfield 15, 3, 0, [7, 1, 0, 189]), (.iconst 1, 1, 1, []), (.iadd, 1, 0, []), (.putfield 15, 3, 0, [7, 1, 0, 189]), (.iload_n 3, 1, 0, []), (.ireturn, 1, 0, [0])] := rfl
set_option maxRecDepth 100000 in
theorem q73_17 (E : mj_E) (d w c : Nat) (hi : Nat → Nat → Int32) (hl : Nat → Nat → Int64) (v1 : Int32) (v2 : Int32) (v3 : Int32) : mj_den mj_P E d 73 17 [Value.ref 2, Value.int v1, Value.int v2, Value.int v3] [] (mj_hw w c hi hl) = if 0 ≤ v3 ∧ (v3).toNatClampNeg < 12 then if 0 ≤ v3 ∧ (v3).toNatClampNeg < 12 then if 0 ≤ v3 ∧ (v3).toNatClampNeg < 12 then some (some (Value.int v3), (mj_hw w c (mj_u (mj_u (mj_u (mj_u hi 10 ((v3).toNatClampNeg) v1) 11 ((v3).toNatClampNeg) v2) 12 ((v3).toNatClampNeg) (-1 : Int32)) 2 1 ((hi 2 1) + (1 : Int32))) hl)) else none else none else none := by
  rw [mj_den_eq, f73_17]
  exact zt_aload_n rfl rfl (zt_getr (mjkd2 _ _ _ _) (mjhr2_14 w c) rfl (zt_iload_n rfl rfl (zt_iload_n rfl rfl (zt_iast (mjkd10 _ _ _ _) (mjln10 _ _ _ _) rfl rfl (zt_aload_n rfl rfl (zt_getr (mjkd2 _ _ _ _) (mjhr2_15 w c) rfl (zt_iload_n rfl rfl (zt_iload_n rfl rfl (zt_iast (mjkd11 _ _ _ _) (mjln11 _ _ _ _) rfl rfl (zt_aload_n rfl rfl (zt_getr (mjkd2 _ _ _ _) (mjhr2_16 w c) rfl (zt_iload_n rfl rfl (zt_iconst rfl (zt_iast (mjkd12 _ _ _ _) (mjln12 _ _ _ _) rfl rfl (zt_aload_n rfl rfl (zt_dupr rfl (zt_geti (mjkd2 _ _ _ _) rfl rfl (zt_iconst rfl (zt_iadd rfl (zt_puti (mjkd2 _ _ _ _) rfl rfl (zt_iload_n rfl rfl (zt_ireturn0))))))))))))))))))))))
set_option maxRecDepth 100000 in
theorem f74_0 : mj_find (mj_P 74).2.2.2.2 0 = [(.aload_n 0, 1, 0, []), (.aload_n 0, 1, 0, []), (.getfield 27, 3, 0, [7, 5, 0, 201]), (.ldc 64, 2, 1664525, [0, 788]), (.imul, 1, 0, []), (.ldc 65, 2, 1013904223, [0, 789]), (.iadd, 1, 0, []), (.putfield 27, 3, 0, [7, 5, 0, 201]), (.iload_n 1, 1, 0, []), (.ifCond .le 15, 3, 0, [30]), (.aload_n 0, 1, 0, []), (.getfield 27, 3, 0, [7, 5, 0, 201]), (.bipush 8, 2, 8, []), (.iushr, 1, 0, []), (.iload_n 1, 1, 0, []), (.irem, 1, 0, []), (.goto 4, 3, 0, [31])] := rfl
set_option maxRecDepth 100000 in
theorem q74_0 (E : mj_E) (d w c : Nat) (hi : Nat → Nat → Int32) (hl : Nat → Nat → Int64) (v1 : Int32) : mj_den mj_P E d 74 0 [Value.ref 2, Value.int v1] [] (mj_hw w c hi hl) = if v1 ≤ 0 then mj_den mj_P E d 74 30 [Value.ref 2, Value.int v1] [] (mj_hw w c (mj_u hi 2 5 (((hi 2 5) * (1664525 : Int32)) + (1013904223 : Int32))) hl) else if v1 = 0 then none else mj_den mj_P E d 74 31 [Value.ref 2, Value.int v1] [Value.int (mj_rem (mj_ush (((hi 2 5) * (1664525 : Int32)) + (1013904223 : Int32)) (8 : Int32)) v1)] (mj_hw w c (mj_u hi 2 5 (((hi 2 5) * (1664525 : Int32)) + (1013904223 : Int32))) hl) := by
  rw [mj_den_eq, f74_0]
  exact zt_aload_n rfl rfl (zt_aload_n rfl rfl (zt_geti (mjkd2 _ _ _ _) rfl rfl (zt_ldc rfl (zt_imul rfl (zt_ldc rfl (zt_iadd rfl (zt_puti (mjkd2 _ _ _ _) rfl rfl (zt_iload_n rfl rfl (zt_if_le rfl rfl (zt_aload_n rfl rfl (zt_geti (mjkd2 _ _ _ _) rfl rfl (zt_bipush rfl (zt_iushr rfl (zt_iload_n rfl rfl (zt_irem  rfl (zt_goto rfl))))))))))))))))
set_option maxRecDepth 100000 in
theorem q74_0_1 (E : mj_E) (d w c : Nat) (hi : Nat → Nat → Int32) (hl : Nat → Nat → Int64) (v1 : Int32) : mj_den mj_P E d 74 0 [Value.ref 177, Value.int v1] [] (mj_hw w c hi hl) = if v1 ≤ 0 then mj_den mj_P E d 74 30 [Value.ref 177, Value.int v1] [] (mj_hw w c (mj_u hi 177 5 (((hi 177 5) * (1664525 : Int32)) + (1013904223 : Int32))) hl) else if v1 = 0 then none else mj_den mj_P E d 74 31 [Value.ref 177, Value.int v1] [Value.int (mj_rem (mj_ush (((hi 177 5) * (1664525 : Int32)) + (1013904223 : Int32)) (8 : Int32)) v1)] (mj_hw w c (mj_u hi 177 5 (((hi 177 5) * (1664525 : Int32)) + (1013904223 : Int32))) hl) := by
  rw [mj_den_eq, f74_0]
  exact zt_aload_n rfl rfl (zt_aload_n rfl rfl (zt_geti (mjkd177 _ _ _ _) rfl rfl (zt_ldc rfl (zt_imul rfl (zt_ldc rfl (zt_iadd rfl (zt_puti (mjkd177 _ _ _ _) rfl rfl (zt_iload_n rfl rfl (zt_if_le rfl rfl (zt_aload_n rfl rfl (zt_geti (mjkd177 _ _ _ _) rfl rfl (zt_bipush rfl (zt_iushr rfl (zt_iload_n rfl rfl (zt_irem  rfl (zt_goto rfl))))))))))))))))
set_option maxRecDepth 100000 in
theorem f74_30 : mj_find (mj_P 74).2.2.2.2 30 = [(.iconst 0, 1, 0, [])] := rfl
set_option maxRecDepth 100000 in
theorem q74_30 (E : mj_E) (d w c : Nat) (hi : Nat → Nat → Int32) (hl : Nat → Nat → Int64) (v1 : Int32) : mj_den mj_P E d 74 30 [Value.ref 2, Value.int v1] [] (mj_hw w c hi hl) = mj_den mj_P E d 74 31 [Value.ref 2, Value.int v1] [Value.int (0 : Int32)] (mj_hw w c hi hl) := by
  rw [mj_den_eq, f74_30]
  exact zt_iconst rfl (zt_end rfl)
set_option maxRecDepth 100000 in
theorem q74_30_1 (E : mj_E) (d w c : Nat) (hi : Nat → Nat → Int32) (hl : Nat → Nat → Int64) (v1 : Int32) : mj_den mj_P E d 74 30 [Value.ref 177, Value.int v1] [] (mj_hw w c hi hl) = mj_den mj_P E d 74 31 [Value.ref 177, Value.int v1] [Value.int (0 : Int32)] (mj_hw w c hi hl) := by
  rw [mj_den_eq, f74_30]
  exact zt_iconst rfl (zt_end rfl)
set_option maxRecDepth 100000 in
theorem f74_31 : mj_find (mj_P 74).2.2.2.2 31 = [(.ireturn, 1, 0, [0])] := rfl
set_option maxRecDepth 100000 in
theorem q74_31 (E : mj_E) (d w c : Nat) (hi : Nat → Nat → Int32) (hl : Nat → Nat → Int64) (v1 : Int32) (s0 : Int32) : mj_den mj_P E d 74 31 [Value.ref 2, Value.int v1] [Value.int s0] (mj_hw w c hi hl) = some (some (Value.int s0), (mj_hw w c hi hl)) := by
  rw [mj_den_eq, f74_31]
  exact zt_ireturn0
set_option maxRecDepth 100000 in
theorem q74_31_1 (E : mj_E) (d w c : Nat) (hi : Nat → Nat → Int32) (hl : Nat → Nat → Int64) (v1 : Int32) (s0 : Int32) : mj_den mj_P E d 74 31 [Value.ref 177, Value.int v1] [Value.int s0] (mj_hw w c hi hl) = some (some (Value.int s0), (mj_hw w c hi hl)) := by
  rw [mj_den_eq, f74_31]
  exact zt_ireturn0
set_option maxRecDepth 100000 in
theorem f75_0 : mj_find (mj_P 75).2.2.2.2 0 = [(.iconst 1, 1, 1, []), (.aload_n 0, 1, 0, []), (.getfield 9, 3, 0, [7, 0, 0, 185]), (.ishl, 1, 0, []), (.iconst 1, 1, 1, []), (.isub, 1, 0, []), (.ireturn, 1, 0, [0])] := rfl
set_option maxRecDepth 100000 in
theorem q75_0 (E : mj_E) (d w c : Nat) (hi : Nat → Nat → Int32) (hl : Nat → Nat → Int64) : mj_den mj_P E d 75 0 [Value.ref 2] [] (mj_hw w c hi hl) = some (some (Value.int (((1 : Int32) <<< ((hi 2 0) &&& 31)) - (1 : Int32))), (mj_hw w c hi hl)) := by
  rw [mj_den_eq, f75_0]
  exact zt_iconst rfl (zt_aload_n rfl rfl (zt_geti (mjkd2 _ _ _ _) rfl rfl (zt_ishl rfl (zt_iconst rfl (zt_isub rfl (zt_ireturn0))))))
